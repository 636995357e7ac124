section
-- pasted: the first blocks of claim/NAMES.whole.lean.txt
/-! ===== BEGIN words of one list among another's, by their places ===== -/
theorem goodIn_r {big : List Cond} (ws : List Cond) (ps : List Nat) (hp : ws = ps.filterMap (fun i => big[i]?)) (h : ws.all goodWord = true) : GoodIn big ws := by
  intro w hw
  have h1 := List.all_eq_true.mp h w hw
  rw [hp] at hw
  obtain ⟨i, -, hi⟩ := List.mem_filterMap.mp hw
  have hm : w ∈ big := by first | exact List.mem_of_getElem? hi | exact List.getElem?_mem hi
  exact ⟨hm, good_of_word h1⟩
theorem goodIn_app {big a b : List Cond} (ha : GoodIn big a) (hb : GoodIn big b) : GoodIn big (a ++ b) := fun w h => (List.mem_append.mp h).elim (ha w) (hb w)
theorem goodIn_ca {big a b : List Cond} {c : Cond} (ha : GoodIn big (c :: a)) (hb : GoodIn big b) : GoodIn big (c :: (a ++ b)) := fun w h => (List.mem_cons.mp h).elim (fun e => ha w (List.mem_cons.mpr (Or.inl e))) (fun h => (List.mem_append.mp h).elim (fun h => ha w (List.mem_cons.mpr (Or.inr h))) (hb w))
theorem goodIn_sub {big ws : List Cond} (hm : ∀ w ∈ ws, w ∈ big) (h : ws.all goodWord = true) : GoodIn big ws := fun w hw => ⟨hm w hw, good_of_word (List.all_eq_true.mp h w hw)⟩
/-! ===== END ===== -/

/-! ===== BEGIN exceptions that leave a method, and their catching by the caller (launches without stack traces) ===== -/
section VXA
/-! The laws vx_back, vx_callV, vx_callS, vx_callSW, vx_throw0, vx_throwS follow proofs of the library, with one case more: JvmDerived/Free/Laws.lean (Back.of_free), Shelf42/LK1.lean (callV, callS), Shelf/KitTraced.lean (throwNew0V, throwNewS). -/
/-- where a method has thrown q: the class by its name, the cell, what was written, the world -/
def vx_T (XC : String → State → State → Prop) (st : State) (q : Addr) (t : State) (mc ms : Nat) (free : Addr → Prop) : Prop :=
  ∃ (E : String) (ce : Cell) (L : List Loc), XC E st t ∧ t.heap[q]? = some ce ∧ ce.vm = .none ∧ st.vm.findClass E = some ce.cls ∧ st.WarmedH t.vm ∧ st.sameButNew ({ t with vm := st.vm } : State) L mc ms ∧ ∀ z ∈ L, free z.base
def vx_Q (Qc : Array Value → State → Outcome → State → Prop) (XC : String → State → State → Prop) (mc ms : Nat) (free : Addr → Prop) : Array Value → State → Outcome → State → Prop := fun a st o t =>
  (Qc a st o t ∧ ∃ L, FrameEnd st o t L mc ms ∧ ∀ q ∈ L, free q.base) ∨ ∃ q, o = .threw q ∧ vx_T XC st q t mc ms free
/-- a callee that returns or throws -/
def vx_Met (l : Launch) (y : MethodName) (ws : List Cond) (rm : Room) (Pc : Array Value → State → Prop) (Qc : Array Value → State → Outcome → State → Prop) (XC : String → State → State → Prop) (mc ms : Nat) (free : Addr → Prop) : Prop :=
  MetFree l y (headSpec ws rm) Pc (fun _ _ _ _ _ => True) (vx_Q Qc XC mc ms free)
def vx_Post (XC : String → State → State → Prop) (mc ms : Nat) (free : Addr → Prop) : Pt → Array Value → Addr → Pt → Prop := fun A a q B =>
  ∃ (g : JFrame) (mk : MethodId) (t : State) (L : List Loc) (E : String) (ce : Cell), B.U.heap = t.heap ∧ B.U.vm = t.vm ∧ XC E (A.U.calling g mk a) t ∧ t.heap[q]? = some ce ∧ ce.vm = .none ∧ A.U.vm.findClass E = some ce.cls ∧ B.locs = A.locs ++ L ∧ (∀ z ∈ L, free z.base) ∧ B.cells = A.cells + mc ∧ B.slots = A.slots + ms
def vx_Back (l : Launch) (R : Room) (p : Program) (e : Env) (below : List Frame) (s : State) (sargs : Array Value) (y : MethodName) (len W9 : Nat)
    (Pre : Pt → Array Value → Prop) (Post : Pt → Array Value → Option Value → Pt → Prop) (PostX : Pt → Array Value → Addr → Pt → Prop) : Prop :=
  ∀ (m : MethodId) (meth : Method) (c : Code) (A : Pt) (g : JFrame) (ig : Instr) (mk : MethodId) (a : Array Value),
    Stand p l e R s m sargs below meth c A.U A.locs A.cells A.slots → g.method = m → g.locals.size = c.maxLocals → decode c.code g.pc = .ok (ig, len) →
    2 * g.monitorRoom + (g.stack.map fun v => v.category).sum ≤ W9 → A.U.methodNamed? y = some mk → Pre A a →
    (∃ (v : Option Value) (B : Pt), Stand p l e R s m sargs below meth c B.U B.locs B.cells B.slots ∧ Post A a v B ∧
      Steps p.tables e below (doInvoke e (A.U.setTop g) [] mk a).1 (B.U.setTop { g with pc := g.pc + len, stack := v.toList ++ g.stack })) ∨
    (∃ (q : Addr) (B : Pt), Stand p l e R s m sargs below meth c B.U B.locs B.cells B.slots ∧ PostX A a q B ∧
      Steps p.tables e below (doInvoke e (A.U.setTop g) [] mk a).1 ((B.U.setTop g).pushFrame (.throwing q)))
section Payer
variable {l : Launch} {R : Room} {p : Program} {e : Env} {below : List Frame} {s : State} {sargs : Array Value} {y : MethodName} {len W9 : Nat}
theorem vx_back {ws : List Cond} {rm : Room} {Pc : Array Value → State → Prop} {Qc : Array Value → State → Outcome → State → Prop} {XC : String → State → State → Prop} {mc ms : Nat} {free : Addr → Prop} {bytes : ByteArray} {maxL : Nat} {ret : Option FieldType}
    (hM : vx_Met l y ws rm Pc Qc XC mc ms free) (hblind : FrameBlind Pc) (hrc : rm.cells = mc) (hrs : rm.slots = ms)
    (hframes : rm.frames + 1 ≤ R.frames) (hlocals : W9 + (maxL + 11) + rm.locals ≤ R.locals)
    (hws : ∀ w ∈ ws, ∀ a' U, s.WarmedH U.vm → w.before a' U = true) (hcode : Cond.code y bytes maxL ret ∈ ws) (hinit : ∀ a' U, s.WarmedH U.vm → (Cond.initialized y.cls).before a' U = true) :
    vx_Back l R p e below s sargs y len W9 (PreOf R mc ms Pc) (PostOf Qc mc ms free) (vx_Post XC mc ms free) := by
  intro m meth c A g ig mk a X hg hsize hdg hW hn hp
  have h1 : (headSpec ws rm).pre.before a A.U = true := atoms_intro fun w hw => hws w hw _ _ X.warmed
  have h2 : (Cond.code y bytes maxL ret).before a A.U = true := hws _ hcode _ _ X.warmed
  have h3 : (Cond.initialized y.cls).before a A.U = true := hinit _ _ X.warmed
  have h4 : A.cells + (headSpec ws rm).room.cells ≤ R.cells := by rw [show (headSpec ws rm).room.cells = mc from hrc]; exact hp.1
  have h5 : A.slots + (headSpec ws rm).room.slots ≤ R.slots := by rw [show (headSpec ws rm).room.slots = ms from hrs]; exact hp.2.1
  have hPc : Pc a (A.U.calling g mk a) := hblind _ _ _ _ hp.2.2
  obtain ⟨U, Ls, c0, s0⟩ := A
  dsimp only [Pt.U, Pt.locs, Pt.cells, Pt.slots] at h1 h2 h3 h4 h5 X hn hPc ⊢
  obtain ⟨methY, cY, hmY, hcY, -, hlY, -, -, -, -⟩ := Cond.code_spec hn h2
  obtain ⟨kY, hkY, -⟩ := className_of_methodNamed hn
  have hinitY : kY.init = .initialized := Cond.initialized_spec (findClass_of_methodNamed hn) hkY h3
  have h : At U g.method c below := by rw [hg]; exact X.here
  have hlocals9 : W9 + (maxL + 11) + (headSpec ws rm).room.locals ≤ R.locals := hlocals
  have happ : (headSpec ws rm).appliesLoose y e.platform (U.calling g mk a) = true :=
    Spec.appliesLoose_calling (g := g) h hdg hn hkY hinitY
      (X.room_calling (g := g) (R' := (headSpec ws rm).room) hsize hmY hcY hframes (by rw [hlY]; omega) h4 h5) h1
  obtain ⟨mid, hmid⟩ := h.above
  have hfr : (U.setTop g).frames = (.java g :: mid) ++ below := by rw [State.frames_setTop' g h.top, hmid]; rfl
  obtain ⟨o, s₂, hsteps, -, hend, hq⟩ := Steps.callFree hM p X.admits X.cas X.clock (acts := []) hfr happ hPc trivial
  have hq' : vx_Q Qc XC mc ms free a (U.calling g mk a) o s₂ := hq
  rw [State.frames_setTop' g h.top] at hend
  obtain ⟨g₀, hg0⟩ := Option.isSome_iff_exists.mp h.top
  obtain ⟨r, hr⟩ := State.topJava?_eq_some.mp hg0
  have hr' : (({ U with heap := s₂.heap, slotsUsed := s₂.slotsUsed } : State).setVm s₂.vm).frames = .java g₀ :: r := hr
  rcases hq' with ⟨hqc, L, hfe, hL⟩ | ⟨q, rfl, E, ce, L, hx, hce, hcv, hcl, hW₂, hsm, hL⟩
  · obtain ⟨⟨v, rfl⟩, hW₂, e2, q2, q3, q4, q5, q6⟩ := id hfe
    have e3 : s₂ = ({ (U.calling g mk a).setFrames s₂.frames with heap := s₂.heap, slotsUsed := s₂.slotsUsed } : State).setVm s₂.vm := by
      have : s₂ = ({ s₂ with vm := (U.calling g mk a).vm } : State).setVm s₂.vm := rfl
      rw [e2] at this
      exact this
    obtain ⟨c₂, i₂, len₂, hc₂, hd₂, hf₂⟩ := hend
    have hW' : U.WarmedH s₂.vm := hW₂
    have hcc : c₂ = c := by
      have h1 : s₂.code? g.method = U.code? g.method := by
        rw [State.code?_eq, State.code?_eq, hW'.alike.method?]
      exact Option.some.inj (hc₂.symm.trans (h1.trans h.code))
    subst hcc
    have hlen : len₂ = len := by rw [hdg] at hd₂; cases hd₂; rfl
    subst hlen
    have hs₂ : s₂ = (({ U with heap := s₂.heap, slotsUsed := s₂.slotsUsed } : State).setVm s₂.vm).setTop { g with pc := g.pc + len₂, stack := v.toList ++ g.stack } := by
      refine e3.trans ?_
      rw [hf₂, State.calling_eq h.top, State.setFrames_setFrames, State.setTop_of_frames _ hr', hr]
      rfl
    have hsame : U.sameButNew ({ U with heap := s₂.heap, slotsUsed := s₂.slotsUsed } : State) L mc ms := by
      refine ⟨?_, q2, q3, q4, q5, q6⟩
      obtain ⟨t, ht, -⟩ := State.frames_cons hr
      show ({ U with heap := s₂.heap, slotsUsed := s₂.slotsUsed } : State) = { U.setFrames U.frames with heap := s₂.heap, slotsUsed := s₂.slotsUsed }
      rw [State.setFrames_self ht]
    subst hg
    refine Or.inl ⟨v, ⟨(({ U with heap := s₂.heap, slotsUsed := s₂.slotsUsed } : State).setVm s₂.vm), Ls ++ L, c0 + mc, s0 + ms⟩,
      ⟨X.admits, X.cas, X.clock, X.frames, X.room, X.hears, X.method, X.code, (X.here.setHeapUsed s₂.heap s₂.slotsUsed).setVm hW'.alike, X.tail, State.WarmedH.trans X.warmed hW', X.limits, X.bytes, X.same.trans (hsame.setVm s.vm)⟩,
      ⟨g, mk, s₂, L, rfl, rfl, hqc, rfl, hL, rfl, rfl⟩, ?_⟩
    show Steps p.tables e below _ ((({ U with heap := s₂.heap, slotsUsed := s₂.slotsUsed } : State).setVm s₂.vm).setTop { g with pc := g.pc + len₂, stack := v.toList ++ g.stack })
    rw [← hs₂]
    exact hsteps
  · obtain ⟨e2, q2, q3, q4, q5, q6⟩ := id hsm
    have e3 : s₂ = ({ (U.calling g mk a).setFrames s₂.frames with heap := s₂.heap, slotsUsed := s₂.slotsUsed } : State).setVm s₂.vm := by
      have : s₂ = ({ s₂ with vm := (U.calling g mk a).vm } : State).setVm s₂.vm := rfl
      rw [e2] at this
      exact this
    have hf₂ : s₂.frames = .throwing q :: .java g :: U.frames.tail := hend
    have hW' : U.WarmedH s₂.vm := hW₂
    have hs₂ : s₂ = ((({ U with heap := s₂.heap, slotsUsed := s₂.slotsUsed } : State).setVm s₂.vm).setTop g).pushFrame (.throwing q) := by
      refine e3.trans ?_
      rw [hf₂, State.calling_eq h.top, State.setFrames_setFrames, State.pushFrame, State.frames_setTop _ hr', State.setTop_of_frames _ hr', State.setFrames_setFrames, hr]
      rfl
    have hsame : U.sameButNew ({ U with heap := s₂.heap, slotsUsed := s₂.slotsUsed } : State) L mc ms := by
      refine ⟨?_, q2, q3, q4, q5, q6⟩
      obtain ⟨t, ht, -⟩ := State.frames_cons hr
      show ({ U with heap := s₂.heap, slotsUsed := s₂.slotsUsed } : State) = { U.setFrames U.frames with heap := s₂.heap, slotsUsed := s₂.slotsUsed }
      rw [State.setFrames_self ht]
    subst hg
    refine Or.inr ⟨q, ⟨(({ U with heap := s₂.heap, slotsUsed := s₂.slotsUsed } : State).setVm s₂.vm), Ls ++ L, c0 + mc, s0 + ms⟩,
      ⟨X.admits, X.cas, X.clock, X.frames, X.room, X.hears, X.method, X.code, (X.here.setHeapUsed s₂.heap s₂.slotsUsed).setVm hW'.alike, X.tail, State.WarmedH.trans X.warmed hW', X.limits, X.bytes, X.same.trans (hsame.setVm s.vm)⟩,
      ⟨g, mk, s₂, L, E, ce, rfl, rfl, hx, hce, hcv, hcl, rfl, hL, rfl, rfl⟩, ?_⟩
    show Steps p.tables e below _ (((({ U with heap := s₂.heap, slotsUsed := s₂.slotsUsed } : State).setVm s₂.vm).setTop g).pushFrame (.throwing q))
    rw [← hs₂]
    exact hsteps
end Payer
section Calls
variable {p : Program} {l : Launch} {e : Env} {R : Room} {s : State} {m : MethodId} {args : Array Value} {below : List Frame} {meth : Method} {c : Code} {T : State} {locs : List Loc} {cells slots : Nat}
theorem vx_callV (X : Stand p l e R s m args below meth c T locs cells slots) (hexec : p.tables.exec = Jvm.exec) {own C : String} {index : Nat} {y : MethodName} {bytes : ByteArray} {maxL : Nat} {ret : Option FieldType}
    (hown : s.vm.findClass own = some m.cls) (hlink : (Cond.methodLink own index y).before args s = true) (hinst : (Cond.instanceMethod y).before args s = true) (hsel : (Cond.selects C y y).before args s = true)
    (hcode : (Cond.code y bytes maxL ret).before args s = true) (hy : y.cls ≠ "java/lang/invoke/MethodHandle" ∧ y.cls ≠ "java/lang/invoke/VarHandle")
    {W9 : Nat} {Pre : Pt → Array Value → Prop} {Post : Pt → Array Value → Option Value → Pt → Prop} {PostX : Pt → Array Value → Addr → Pt → Prop} (hK : vx_Back l R p e below s args y 3 W9 Pre Post PostX)
    {b : Addr} {cellB : Cell} (hcell : T.heap[b]? = some cellB) (hobj : cellB.vm.isStatics = false) (hcls : s.vm.findClass C = some cellB.cls)
    {g : JFrame} (hg : g.method = m) (hsize : g.locals.size = c.maxLocals) {argsL rest : List Value} (hlen : ∀ sig, parseMethodDescriptor y.desc = some sig → argsL.length = sig.parameters.length)
    (hstack : g.stack = argsL.reverse ++ .ref b :: rest) (hW : 2 * g.monitorRoom + (rest.map fun v => v.category).sum ≤ W9) (hdg : decode c.code g.pc = .ok (.invokevirtual index, 3))
    (hpre : ∀ vm₁, s.WarmedH vm₁ → Pre ⟨T.setVm vm₁, locs, cells, slots⟩ (Value.ref b :: argsL).toArray) :
    (∃ (v : Option Value) (vm₁ : Vm) (B : Pt), s.WarmedH vm₁ ∧ Stand p l e R s m args below meth c B.U B.locs B.cells B.slots ∧ Post ⟨T.setVm vm₁, locs, cells, slots⟩ (Value.ref b :: argsL).toArray v B ∧
      ∀ target, Steps p.tables e below (B.U.setTop { g with pc := g.pc + 3, stack := v.toList ++ rest }) target → Steps p.tables e below (T.setTop g) target) ∨
    (∃ (q : Addr) (vm₁ : Vm) (B : Pt), s.WarmedH vm₁ ∧ Stand p l e R s m args below meth c B.U B.locs B.cells B.slots ∧ PostX ⟨T.setVm vm₁, locs, cells, slots⟩ (Value.ref b :: argsL).toArray q B ∧
      Steps p.tables e below (T.setTop g) ((B.U.setTop { g with stack := rest }).pushFrame (.throwing q))) := by
  obtain ⟨mk, methM, hnamed, hmethM, hstM, habM⟩ := Cond.instanceMethod_spec hinst
  obtain ⟨methM', cM, hmethM', -, -, -, -, -, -, hsigM⟩ := Cond.code_spec hnamed hcode
  cases hmethM.symm.trans hmethM'
  obtain ⟨c2, r2, m2, q1, q2, q3, q4, kP, hkP, hkPi⟩ := Cond.selects_spec hsel
  cases hcls.symm.trans q1
  cases (State.methodFound?_of_named hnamed hy).symm.trans q2
  cases hnamed.symm.trans q3
  have hselP : selectMethod e.platform s.vm cellB.cls mk = .method mk := by rw [Launch.admits_selectMethod X.admits]; exact q4
  obtain ⟨vm₁, X₁, hstep₁⟩ := X.invokevirtual hexec hown hlink hnamed hmethM hstM hkP hkPi hy (a := b) (cell := cellB) hcell
    (fun z h => by rw [h] at hobj; cases hobj) hselP hmethM habM hkP hkPi (g := g) hg (argsL := argsL) (rest := rest) (hlen _ hsigM) hstack hdg
  rcases hK m meth c ⟨T.setVm vm₁, locs, cells, slots⟩ { g with stack := rest } (.invokevirtual index) mk (Value.ref b :: argsL).toArray X₁ hg hsize hdg hW (X₁.named hnamed) (hpre vm₁ X₁.warmed) with ⟨v, B, X', hpost, hsteps⟩ | ⟨q, B, X', hpost, hsteps⟩
  · exact Or.inl ⟨v, vm₁, B, X₁.warmed, X', hpost, fun target h => hstep₁ _ fun acts => by rw [doInvoke_state]; exact hsteps.trans h⟩
  · exact Or.inr ⟨q, vm₁, B, X₁.warmed, X', hpost, hstep₁ _ fun acts => by rw [doInvoke_state]; exact hsteps⟩
theorem vx_callS (X : Stand p l e R s m args below meth c T locs cells slots) (hexec : p.tables.exec = Jvm.exec) {own : String} {index : Nat} {y : MethodName} {bytes : ByteArray} {maxL : Nat} {ret : Option FieldType}
    (hown : s.vm.findClass own = some m.cls) (hlink : (Cond.methodLink own index y).before args s = true) (hstat : (Cond.static y).before args s = true) (hinit : (Cond.initialized y.cls).before args s = true)
    (hcode : (Cond.code y bytes maxL ret).before args s = true) (hy : y.cls ≠ "java/lang/invoke/MethodHandle" ∧ y.cls ≠ "java/lang/invoke/VarHandle")
    {W9 : Nat} {Pre : Pt → Array Value → Prop} {Post : Pt → Array Value → Option Value → Pt → Prop} {PostX : Pt → Array Value → Addr → Pt → Prop} (hK : vx_Back l R p e below s args y 3 W9 Pre Post PostX)
    {g : JFrame} (hg : g.method = m) (hsize : g.locals.size = c.maxLocals) {argsL rest : List Value} (hlen : ∀ sig, parseMethodDescriptor y.desc = some sig → argsL.length = sig.parameters.length)
    (hstack : g.stack = argsL.reverse ++ rest) (hW : 2 * g.monitorRoom + (rest.map fun v => v.category).sum ≤ W9) (hdg : decode c.code g.pc = .ok (.invokestatic index, 3))
    (hpre : ∀ vm₁, s.WarmedH vm₁ → Pre ⟨T.setVm vm₁, locs, cells, slots⟩ argsL.toArray) :
    (∃ (v : Option Value) (vm₁ : Vm) (B : Pt), s.WarmedH vm₁ ∧ Stand p l e R s m args below meth c B.U B.locs B.cells B.slots ∧ Post ⟨T.setVm vm₁, locs, cells, slots⟩ argsL.toArray v B ∧
      ∀ target, Steps p.tables e below (B.U.setTop { g with pc := g.pc + 3, stack := v.toList ++ rest }) target → Steps p.tables e below (T.setTop g) target) ∨
    (∃ (q : Addr) (vm₁ : Vm) (B : Pt), s.WarmedH vm₁ ∧ Stand p l e R s m args below meth c B.U B.locs B.cells B.slots ∧ PostX ⟨T.setVm vm₁, locs, cells, slots⟩ argsL.toArray q B ∧
      Steps p.tables e below (T.setTop g) ((B.U.setTop { g with stack := rest }).pushFrame (.throwing q))) := by
  obtain ⟨mk, hnamed⟩ := Cond.code_named hcode
  obtain ⟨methM, cM, hmethM, -, -, -, -, -, -, hsigM⟩ := Cond.code_spec hnamed hcode
  have hstatic : methM.isStatic = true := Cond.static_spec hnamed hmethM hstat
  obtain ⟨kP, hkP, -⟩ := className_of_methodNamed hnamed
  have hinitP : kP.init = .initialized := Cond.initialized_spec (findClass_of_methodNamed hnamed) hkP hinit
  obtain ⟨vm₁, X₁, hstep₁⟩ := X.invokestatic hexec hown hlink hnamed hmethM hstatic hkP hinitP hy (g := g) hg (argsL := argsL) (rest := rest) (hlen _ hsigM) hstack hdg
  rcases hK m meth c ⟨T.setVm vm₁, locs, cells, slots⟩ { g with stack := rest } (.invokestatic index) mk argsL.toArray X₁ hg hsize hdg hW (X₁.named hnamed) (hpre vm₁ X₁.warmed) with ⟨v, B, X', hpost, hsteps⟩ | ⟨q, B, X', hpost, hsteps⟩
  · exact Or.inl ⟨v, vm₁, B, X₁.warmed, X', hpost, fun target h => hstep₁ _ fun acts => by rw [doInvoke_state]; exact hsteps.trans h⟩
  · exact Or.inr ⟨q, vm₁, B, X₁.warmed, X', hpost, hstep₁ _ fun acts => by rw [doInvoke_state]; exact hsteps⟩
end Calls
theorem vx_cls {s : State} {T : State} {vm₁ : Vm} {E : String} {k : ClassId} (hW : s.WarmedH vm₁) (h : (T.setVm vm₁).vm.findClass E = some k) : s.vm.findClass E = some k := by
  have h1 : vm₁.findClass E = some k := h
  rw [hW.alike.findClass] at h1
  exact h1
/-- the method's frame g, with q thrown over it -/
def vx_W (p : Program) (l : Launch) (e : Env) (R : Room) (s : State) (m : MethodId) (args : Array Value) (below : List Frame) (meth : Method) (c : Code) (H : Heap) (locs : List Loc) (cells slots : Nat) (Q : State → Prop) (g : JFrame) (q : Addr) : Prop :=
  ∀ T : State, T.heap = H → Stand p l e R s m args below meth c T locs cells slots → ∃ t, Steps p.tables e below ((T.setTop g).pushFrame (.throwing q)) t ∧ Q t
def vx_Run (p : Program) (l : Launch) (e : Env) (R : Room) (s : State) (m : MethodId) (args : Array Value) (below : List Frame) (meth : Method) (c : Code) (H : Heap) (locs : List Loc) (cells slots mc ms : Nat) (g : JFrame) (rest : List Value) (Qa : State → Outcome → State → Prop) (XC : String → State → State → Prop) (free : Addr → Prop) : Prop :=
  ∀ T : State, T.heap = H → Stand p l e R s m args below meth c T locs cells slots →
    (∃ (v : Option Value) (st₀ t T' : State) (L : List Loc), st₀.heap = H ∧ Stand p l e R s m args below meth c T' (locs ++ L) (cells + mc) (slots + ms) ∧ (∀ q ∈ L, free q.base) ∧ T'.heap = t.heap ∧ T'.vm = t.vm ∧ Qa st₀ (.returned v) t ∧
      Goes p e below T g T' { g with pc := g.pc + 3, stack := v.toList ++ rest }) ∨
    (∃ (q : Addr) (st₀ t T' : State) (L : List Loc) (E : String) (ce : Cell), st₀.heap = H ∧ Stand p l e R s m args below meth c T' (locs ++ L) (cells + mc) (slots + ms) ∧ (∀ z ∈ L, free z.base) ∧ T'.heap = t.heap ∧ T'.vm = t.vm ∧ XC E st₀ t ∧ t.heap[q]? = some ce ∧ ce.vm = .none ∧ s.vm.findClass E = some ce.cls ∧
      Steps p.tables e below (T.setTop g) ((T'.setTop { g with stack := rest }).pushFrame (.throwing q)))
def vx_X {S : Type} (px : S → Prop) (B : String → S → State → Prop) (A : Nat → Prop) : String → State → State → Prop := fun E st t => ∃ u : S, px u ∧ B E u t ∧ va_F A st t
section Runs
variable {p : Program} {l : Launch} {e : Env} {R : Room} {s : State} {m : MethodId} {args : Array Value} {below : List Frame} {meth : Method} {c : Code} {H : Heap} {locs : List Loc} {cells slots : Nat}
variable {y : MethodName} {bytes cc : ByteArray} {maxL nL mc ms n index : Nat} {ret : Option FieldType} {ws : List Cond} {rm : Room} {Pc : Array Value → State → Prop} {Qc : Array Value → State → Outcome → State → Prop} {XC : String → State → State → Prop} {free : Addr → Prop} {Ts : List Cond} {own C : String} {b : Addr} {As rest : List Value} {g : JFrame}
theorem vx_callBack (cb : CallB R s args own index y bytes maxL ret ws rm mc ms n) (hM : vx_Met l y ws rm Pc Qc XC mc ms free) (hbl : FrameBlind Pc) : vx_Back l R p e below s args y 3 8 (PreOf R mc ms Pc) (PostOf Qc mc ms free) (vx_Post XC mc ms free) := by
  obtain ⟨hrc, hrs, hfr, hlo, hws, hcw, -, hini, -⟩ := cb
  exact vx_back (bytes := bytes) (maxL := maxL) (ret := ret) hM hbl hrc hrs hfr hlo hws hcw (fun a' U hW => word_at hW (Or.inl (by first | rfl | simp [Cond.onTables, Cond.keeps, Cond.steady])) hini)
theorem vx_runV (S : CallFix p m c cc nL s args Ts own) (hM : vx_Met l y ws rm Pc Qc XC mc ms free) (cw : CallW R s args own C index y bytes maxL ret ws rm mc ms n) (hp : PreV s H C b Pc As)
    (hg : g.method = m) (hn : As.length = n) (hsize : g.locals.size = nL) (hstack : g.stack = As.reverse ++ .ref b :: rest) (hW : 2 * g.monitorRoom + (rest.map fun v => v.category).sum ≤ 8) (hdg : decode cc g.pc = .ok (.invokevirtual index, 3)) (hf : cells + mc ≤ R.cells ∧ slots + ms ≤ R.slots) :
    vx_Run p l e R s m args below meth c H locs cells slots mc ms g rest (Qc (Value.ref b :: As).toArray) XC free := by
  have hK : vx_Back l R p e below s args y 3 8 (PreOf R mc ms Pc) (PostOf Qc mc ms free) (vx_Post XC mc ms free) := vx_callBack cw.1 hM hp.1
  obtain ⟨⟨-, -, -, -, -, -, hcode, -, hy, hlen, hl⟩, hin, hse⟩ := cw
  obtain ⟨hx, hb, hml, ho, -⟩ := S
  obtain ⟨-, ⟨cellB, hcB, hoB, hclB⟩, hPc⟩ := hp
  intro T hT X
  rcases vx_callV X hx (C := C) (bytes := bytes) (maxL := maxL) (ret := ret) ho hl hin hse hcode hy hK (by rw [hT]; exact hcB) hoB hclB hg (hsize.trans hml.symm) (argsL := As) (rest := rest) (fun sig h => hn.trans (hlen sig h)) hstack hW (by rw [hb]; exact hdg)
    (fun vm₁ hW₁ => ⟨hf.1, hf.2, hPc (T.setVm vm₁) hT hW₁⟩) with ⟨v, vm₁, ⟨U', l2, c2, s2⟩, hW₁, X', ⟨g', mk, t, L, e1, e2, hq, h1, hL, h2, h3⟩, st⟩ | ⟨q, vm₁, ⟨U', l2, c2, s2⟩, hW₁, X', ⟨g', mk, t, L, E, ce, e1, e2, hq, hce, hcv, hcl, h1, hL, h2, h3⟩, st⟩
  · dsimp only [Pt.U, Pt.locs, Pt.cells, Pt.slots] at X' e1 e2 h1 h2 h3 st
    subst h1; subst h2; subst h3
    exact Or.inl ⟨v, (T.setVm vm₁).calling g' mk (Value.ref b :: As).toArray, t, U', L, hT, X', hL, e1, e2, hq, st⟩
  · dsimp only [Pt.U, Pt.locs, Pt.cells, Pt.slots] at X' e1 e2 h1 h2 h3 st hcl
    subst h1; subst h2; subst h3
    exact Or.inr ⟨q, (T.setVm vm₁).calling g' mk (Value.ref b :: As).toArray, t, U', L, E, ce, hT, X', hL, e1, e2, hq, hce, hcv, vx_cls hW₁ hcl, st⟩
theorem vx_runS (S : CallFix p m c cc nL s args Ts own) (hM : vx_Met l y ws rm Pc Qc XC mc ms free) (cw : CallB R s args own index y bytes maxL ret ws rm mc ms n ∧ (Cond.static y).before args s = true) (hp : PreS s H Pc As)
    (hg : g.method = m) (hn : As.length = n) (hsize : g.locals.size = nL) (hstack : g.stack = As.reverse ++ rest) (hW : 2 * g.monitorRoom + (rest.map fun v => v.category).sum ≤ 8) (hdg : decode cc g.pc = .ok (.invokestatic index, 3)) (hf : cells + mc ≤ R.cells ∧ slots + ms ≤ R.slots) :
    vx_Run p l e R s m args below meth c H locs cells slots mc ms g rest (Qc As.toArray) XC free := by
  have hK : vx_Back l R p e below s args y 3 8 (PreOf R mc ms Pc) (PostOf Qc mc ms free) (vx_Post XC mc ms free) := vx_callBack cw.1 hM hp.1
  obtain ⟨⟨-, -, -, -, -, -, hcode, hini, hy, hlen, hl⟩, hstt⟩ := cw
  obtain ⟨hx, hb, hml, ho, -⟩ := S
  intro T hT X
  rcases vx_callS X hx (bytes := bytes) (maxL := maxL) (ret := ret) ho hl hstt hini hcode hy hK hg (hsize.trans hml.symm) (argsL := As) (rest := rest) (fun sig h => hn.trans (hlen sig h)) hstack hW (by rw [hb]; exact hdg)
    (fun vm₁ hW₁ => ⟨hf.1, hf.2, hp.2 (T.setVm vm₁) hT hW₁⟩) with ⟨v, vm₁, ⟨U', l2, c2, s2⟩, hW₁, X', ⟨g', mk, t, L, e1, e2, hq, h1, hL, h2, h3⟩, st⟩ | ⟨q, vm₁, ⟨U', l2, c2, s2⟩, hW₁, X', ⟨g', mk, t, L, E, ce, e1, e2, hq, hce, hcv, hcl, h1, hL, h2, h3⟩, st⟩
  · dsimp only [Pt.U, Pt.locs, Pt.cells, Pt.slots] at X' e1 e2 h1 h2 h3 st
    subst h1; subst h2; subst h3
    exact Or.inl ⟨v, (T.setVm vm₁).calling g' mk As.toArray, t, U', L, hT, X', hL, e1, e2, hq, st⟩
  · dsimp only [Pt.U, Pt.locs, Pt.cells, Pt.slots] at X' e1 e2 h1 h2 h3 st hcl
    subst h1; subst h2; subst h3
    exact Or.inr ⟨q, (T.setVm vm₁).calling g' mk As.toArray, t, U', L, E, ce, hT, X', hL, e1, e2, hq, hce, hcv, vx_cls hW₁ hcl, st⟩
end Runs
section Rows
variable {p : Program} {l : Launch} {e : Env} {R : Room} {s : State} {m : MethodId} {args : Array Value} {below : List Frame} {meth : Method} {c : Code} {H : Heap} {locs : List Loc} {cells slots : Nat} {Q : State → Prop}
variable {mc ms : Nat} {free : Addr → Prop} {A0 A1 : Nat → Prop} {H0 : Heap} {a : Array Value} {pc : Nat} {ls : Array Slot} {st0 rest : List Value}
theorem vx_keep {st₀ t T' : State} {L : List Loc} (h0 : st₀.heap = H) (e1 : T'.heap = t.heap) (hS : va_S A0 H0 H locs) (hA : ∀ q, q < H.size → A1 q → A0 q) (hf : ∀ q, free q → A0 q) (hL : ∀ q ∈ L, free q.base) (hF : va_F A1 st₀ t) :
    H.size ≤ T'.heap.size ∧ (∀ q : Nat, q < H.size → ¬ A1 q → T'.heap[q]? = H[q]?) ∧ va_S A0 H0 T'.heap (locs ++ L) := by
  obtain ⟨hz, hk⟩ := hF
  rw [h0] at hz hk
  exact ⟨by rw [e1]; exact hz, fun q h1 h2 => by rw [e1]; exact hk q h1 h2,
    ⟨Nat.le_trans hS.1 (by rw [e1]; exact hz), fun q h1 h2 => by rw [e1, hk q (Nat.lt_of_lt_of_le h1 hS.1) (fun z => h2 (hA q (Nat.lt_of_lt_of_le h1 hS.1) z))]; exact hS.2.1 q h1 h2, fun q hq => by
      rcases List.mem_append.mp hq with h | h
      · exact hS.2.2 q h
      · exact hf _ (hL q h)⟩⟩
theorem vx_calli {S SX : Type} {post : Int32 → S → Prop} {px : SX → Prop} {B : S → State → Prop} {BX : String → SX → State → Prop} {AX : Nat → Prop} (hr : vx_Run p l e R s m args below meth c H locs cells slots mc ms (F0 m pc ls st0) rest (va_Qi post B A1 a) (vx_X px BX AX) free) (hS : va_S A0 H0 H locs) (hA : ∀ q, q < H.size → A1 q → A0 q) (hf : ∀ q, free q → A0 q) (hAX : ∀ q, q < H.size → AX q → A0 q)
    (kx : ∀ (E : String) (ce : Cell) (q9 : Addr) (u : SX) (t : State) (H1 : Heap) (locs1 : List Loc), t.heap = H1 → s.vm.Alike t.vm → px u → BX E u t → H.size ≤ H1.size → (∀ q : Nat, q < H.size → ¬ AX q → H1[q]? = H[q]?) → va_S A0 H0 H1 locs1 → H1[q9]? = some ce → ce.vm = .none → s.vm.findClass E = some ce.cls → vx_W p l e R s m args below meth c H1 locs1 (cells + mc) (slots + ms) Q (F0 m pc ls rest) q9)
    (kk : ∀ (r : Int32) (u : S) (t : State) (H1 : Heap) (locs1 : List Loc), t.heap = H1 → s.vm.Alike t.vm → post r u → B u t → H.size ≤ H1.size → (∀ q : Nat, q < H.size → ¬ A1 q → H1[q]? = H[q]?) → va_S A0 H0 H1 locs1 → W p l e R s m args below meth c H1 locs1 (cells + mc) (slots + ms) Q (F0 m (pc + 3) ls (.int r :: rest))) : W p l e R s m args below meth c H locs cells slots Q (F0 m pc ls st0) := by
  intro T hT X
  rcases hr T hT X with ⟨v, st₀, t, T', L, h0, X', hL, e1, e2, ⟨⟨r, u, hv, hp, hb⟩, hF⟩, st⟩ | ⟨q, st₀, t, T', L, E, ce, h0, X', hL, e1, e2, ⟨u, hp, hb, hF⟩, hce, hcv, hcl, st⟩
  · cases hv
    obtain ⟨k1, k2, k3⟩ := vx_keep h0 e1 hS hA hf hL hF
    obtain ⟨t2, a1, b1⟩ := kk r u t T'.heap (locs ++ L) e1.symm (by rw [← e2]; exact X'.warmed.alike) hp hb k1 k2 k3 T' rfl X'
    exact ⟨t2, st t2 a1, b1⟩
  · obtain ⟨k1, k2, k3⟩ := vx_keep h0 e1 hS hAX hf hL hF
    obtain ⟨t2, a1, b1⟩ := kx E ce q u t T'.heap (locs ++ L) e1.symm (by rw [← e2]; exact X'.warmed.alike) hp hb k1 k2 k3 (by rw [e1]; exact hce) hcv hcl T' rfl X'
    exact ⟨t2, st.trans a1, b1⟩
theorem vx_calll {S SX : Type} {post : Int64 → S → Prop} {px : SX → Prop} {B : S → State → Prop} {BX : String → SX → State → Prop} {AX : Nat → Prop} (hr : vx_Run p l e R s m args below meth c H locs cells slots mc ms (F0 m pc ls st0) rest (va_Ql post B A1 a) (vx_X px BX AX) free) (hS : va_S A0 H0 H locs) (hA : ∀ q, q < H.size → A1 q → A0 q) (hf : ∀ q, free q → A0 q) (hAX : ∀ q, q < H.size → AX q → A0 q)
    (kx : ∀ (E : String) (ce : Cell) (q9 : Addr) (u : SX) (t : State) (H1 : Heap) (locs1 : List Loc), t.heap = H1 → s.vm.Alike t.vm → px u → BX E u t → H.size ≤ H1.size → (∀ q : Nat, q < H.size → ¬ AX q → H1[q]? = H[q]?) → va_S A0 H0 H1 locs1 → H1[q9]? = some ce → ce.vm = .none → s.vm.findClass E = some ce.cls → vx_W p l e R s m args below meth c H1 locs1 (cells + mc) (slots + ms) Q (F0 m pc ls rest) q9)
    (kk : ∀ (r : Int64) (u : S) (t : State) (H1 : Heap) (locs1 : List Loc), t.heap = H1 → s.vm.Alike t.vm → post r u → B u t → H.size ≤ H1.size → (∀ q : Nat, q < H.size → ¬ A1 q → H1[q]? = H[q]?) → va_S A0 H0 H1 locs1 → W p l e R s m args below meth c H1 locs1 (cells + mc) (slots + ms) Q (F0 m (pc + 3) ls (.long r :: rest))) : W p l e R s m args below meth c H locs cells slots Q (F0 m pc ls st0) := by
  intro T hT X
  rcases hr T hT X with ⟨v, st₀, t, T', L, h0, X', hL, e1, e2, ⟨⟨r, u, hv, hp, hb⟩, hF⟩, st⟩ | ⟨q, st₀, t, T', L, E, ce, h0, X', hL, e1, e2, ⟨u, hp, hb, hF⟩, hce, hcv, hcl, st⟩
  · cases hv
    obtain ⟨k1, k2, k3⟩ := vx_keep h0 e1 hS hA hf hL hF
    obtain ⟨t2, a1, b1⟩ := kk r u t T'.heap (locs ++ L) e1.symm (by rw [← e2]; exact X'.warmed.alike) hp hb k1 k2 k3 T' rfl X'
    exact ⟨t2, st t2 a1, b1⟩
  · obtain ⟨k1, k2, k3⟩ := vx_keep h0 e1 hS hAX hf hL hF
    obtain ⟨t2, a1, b1⟩ := kx E ce q u t T'.heap (locs ++ L) e1.symm (by rw [← e2]; exact X'.warmed.alike) hp hb k1 k2 k3 (by rw [e1]; exact hce) hcv hcl T' rfl X'
    exact ⟨t2, st.trans a1, b1⟩
theorem vx_callf {S SX : Type} {post : UInt32 → S → Prop} {px : SX → Prop} {B : S → State → Prop} {BX : String → SX → State → Prop} {AX : Nat → Prop} (hr : vx_Run p l e R s m args below meth c H locs cells slots mc ms (F0 m pc ls st0) rest (va_Qf post B A1 a) (vx_X px BX AX) free) (hS : va_S A0 H0 H locs) (hA : ∀ q, q < H.size → A1 q → A0 q) (hf : ∀ q, free q → A0 q) (hAX : ∀ q, q < H.size → AX q → A0 q)
    (kx : ∀ (E : String) (ce : Cell) (q9 : Addr) (u : SX) (t : State) (H1 : Heap) (locs1 : List Loc), t.heap = H1 → s.vm.Alike t.vm → px u → BX E u t → H.size ≤ H1.size → (∀ q : Nat, q < H.size → ¬ AX q → H1[q]? = H[q]?) → va_S A0 H0 H1 locs1 → H1[q9]? = some ce → ce.vm = .none → s.vm.findClass E = some ce.cls → vx_W p l e R s m args below meth c H1 locs1 (cells + mc) (slots + ms) Q (F0 m pc ls rest) q9)
    (kk : ∀ (r : UInt32) (u : S) (t : State) (H1 : Heap) (locs1 : List Loc), t.heap = H1 → s.vm.Alike t.vm → post r u → B u t → H.size ≤ H1.size → (∀ q : Nat, q < H.size → ¬ A1 q → H1[q]? = H[q]?) → va_S A0 H0 H1 locs1 → W p l e R s m args below meth c H1 locs1 (cells + mc) (slots + ms) Q (F0 m (pc + 3) ls (.float r :: rest))) : W p l e R s m args below meth c H locs cells slots Q (F0 m pc ls st0) := by
  intro T hT X
  rcases hr T hT X with ⟨v, st₀, t, T', L, h0, X', hL, e1, e2, ⟨⟨r, u, hv, hp, hb⟩, hF⟩, st⟩ | ⟨q, st₀, t, T', L, E, ce, h0, X', hL, e1, e2, ⟨u, hp, hb, hF⟩, hce, hcv, hcl, st⟩
  · cases hv
    obtain ⟨k1, k2, k3⟩ := vx_keep h0 e1 hS hA hf hL hF
    obtain ⟨t2, a1, b1⟩ := kk r u t T'.heap (locs ++ L) e1.symm (by rw [← e2]; exact X'.warmed.alike) hp hb k1 k2 k3 T' rfl X'
    exact ⟨t2, st t2 a1, b1⟩
  · obtain ⟨k1, k2, k3⟩ := vx_keep h0 e1 hS hAX hf hL hF
    obtain ⟨t2, a1, b1⟩ := kx E ce q u t T'.heap (locs ++ L) e1.symm (by rw [← e2]; exact X'.warmed.alike) hp hb k1 k2 k3 (by rw [e1]; exact hce) hcv hcl T' rfl X'
    exact ⟨t2, st.trans a1, b1⟩
theorem vx_calld {S SX : Type} {post : UInt64 → S → Prop} {px : SX → Prop} {B : S → State → Prop} {BX : String → SX → State → Prop} {AX : Nat → Prop} (hr : vx_Run p l e R s m args below meth c H locs cells slots mc ms (F0 m pc ls st0) rest (va_Qd post B A1 a) (vx_X px BX AX) free) (hS : va_S A0 H0 H locs) (hA : ∀ q, q < H.size → A1 q → A0 q) (hf : ∀ q, free q → A0 q) (hAX : ∀ q, q < H.size → AX q → A0 q)
    (kx : ∀ (E : String) (ce : Cell) (q9 : Addr) (u : SX) (t : State) (H1 : Heap) (locs1 : List Loc), t.heap = H1 → s.vm.Alike t.vm → px u → BX E u t → H.size ≤ H1.size → (∀ q : Nat, q < H.size → ¬ AX q → H1[q]? = H[q]?) → va_S A0 H0 H1 locs1 → H1[q9]? = some ce → ce.vm = .none → s.vm.findClass E = some ce.cls → vx_W p l e R s m args below meth c H1 locs1 (cells + mc) (slots + ms) Q (F0 m pc ls rest) q9)
    (kk : ∀ (r : UInt64) (u : S) (t : State) (H1 : Heap) (locs1 : List Loc), t.heap = H1 → s.vm.Alike t.vm → post r u → B u t → H.size ≤ H1.size → (∀ q : Nat, q < H.size → ¬ A1 q → H1[q]? = H[q]?) → va_S A0 H0 H1 locs1 → W p l e R s m args below meth c H1 locs1 (cells + mc) (slots + ms) Q (F0 m (pc + 3) ls (.double r :: rest))) : W p l e R s m args below meth c H locs cells slots Q (F0 m pc ls st0) := by
  intro T hT X
  rcases hr T hT X with ⟨v, st₀, t, T', L, h0, X', hL, e1, e2, ⟨⟨r, u, hv, hp, hb⟩, hF⟩, st⟩ | ⟨q, st₀, t, T', L, E, ce, h0, X', hL, e1, e2, ⟨u, hp, hb, hF⟩, hce, hcv, hcl, st⟩
  · cases hv
    obtain ⟨k1, k2, k3⟩ := vx_keep h0 e1 hS hA hf hL hF
    obtain ⟨t2, a1, b1⟩ := kk r u t T'.heap (locs ++ L) e1.symm (by rw [← e2]; exact X'.warmed.alike) hp hb k1 k2 k3 T' rfl X'
    exact ⟨t2, st t2 a1, b1⟩
  · obtain ⟨k1, k2, k3⟩ := vx_keep h0 e1 hS hAX hf hL hF
    obtain ⟨t2, a1, b1⟩ := kx E ce q u t T'.heap (locs ++ L) e1.symm (by rw [← e2]; exact X'.warmed.alike) hp hb k1 k2 k3 (by rw [e1]; exact hce) hcv hcl T' rfl X'
    exact ⟨t2, st.trans a1, b1⟩
theorem vx_callv {S SX : Type} {post : S → Prop} {px : SX → Prop} {B : S → State → Prop} {BX : String → SX → State → Prop} {AX : Nat → Prop} (hr : vx_Run p l e R s m args below meth c H locs cells slots mc ms (F0 m pc ls st0) rest (va_Qv post B A1 a) (vx_X px BX AX) free) (hS : va_S A0 H0 H locs) (hA : ∀ q, q < H.size → A1 q → A0 q) (hf : ∀ q, free q → A0 q) (hAX : ∀ q, q < H.size → AX q → A0 q)
    (kx : ∀ (E : String) (ce : Cell) (q9 : Addr) (u : SX) (t : State) (H1 : Heap) (locs1 : List Loc), t.heap = H1 → s.vm.Alike t.vm → px u → BX E u t → H.size ≤ H1.size → (∀ q : Nat, q < H.size → ¬ AX q → H1[q]? = H[q]?) → va_S A0 H0 H1 locs1 → H1[q9]? = some ce → ce.vm = .none → s.vm.findClass E = some ce.cls → vx_W p l e R s m args below meth c H1 locs1 (cells + mc) (slots + ms) Q (F0 m pc ls rest) q9)
    (kk : ∀ (u : S) (t : State) (H1 : Heap) (locs1 : List Loc), t.heap = H1 → s.vm.Alike t.vm → post u → B u t → H.size ≤ H1.size → (∀ q : Nat, q < H.size → ¬ A1 q → H1[q]? = H[q]?) → va_S A0 H0 H1 locs1 → W p l e R s m args below meth c H1 locs1 (cells + mc) (slots + ms) Q (F0 m (pc + 3) ls (rest))) : W p l e R s m args below meth c H locs cells slots Q (F0 m pc ls st0) := by
  intro T hT X
  rcases hr T hT X with ⟨v, st₀, t, T', L, h0, X', hL, e1, e2, ⟨⟨u, hv, hp, hb⟩, hF⟩, st⟩ | ⟨q, st₀, t, T', L, E, ce, h0, X', hL, e1, e2, ⟨u, hp, hb, hF⟩, hce, hcv, hcl, st⟩
  · cases hv
    obtain ⟨k1, k2, k3⟩ := vx_keep h0 e1 hS hA hf hL hF
    obtain ⟨t2, a1, b1⟩ := kk u t T'.heap (locs ++ L) e1.symm (by rw [← e2]; exact X'.warmed.alike) hp hb k1 k2 k3 T' rfl X'
    exact ⟨t2, st t2 a1, b1⟩
  · obtain ⟨k1, k2, k3⟩ := vx_keep h0 e1 hS hAX hf hL hF
    obtain ⟨t2, a1, b1⟩ := kx E ce q u t T'.heap (locs ++ L) e1.symm (by rw [← e2]; exact X'.warmed.alike) hp hb k1 k2 k3 (by rw [e1]; exact hce) hcv hcl T' rfl X'
    exact ⟨t2, st.trans a1, b1⟩
/-- caught by the row x of this method's table; the rows ahead don't take it -/
theorem vx_catch {own name : String} {E : String} {ce : Cell} {q : Addr} (hown : s.vm.findClass own = some m.cls) (pre : List ExceptionTableEntry) (x : ExceptionTableEntry) (suf : List ExceptionTableEntry) (hsplit : c.exceptionTable.toList = pre ++ x :: suf)
    (hpass : ∀ z ∈ pre, covers z pc = false ∨ (z.catchType ≠ 0 ∧ ∃ nm : String, (Cond.classLink own z.catchType nm).before args s = true ∧ va_Nc E nm s)) (hx : covers x pc = true) (h0 : x.catchType ≠ 0)
    (hlink : (Cond.classLink own x.catchType name).before args s = true) (hcast : (Cond.castable E name).before args s = true) (hcell : H[q]? = some ce) (hv : ce.vm = .none) (hcl : s.vm.findClass E = some ce.cls)
    (kk : W p l e R s m args below meth c H locs cells slots Q (F0 m x.handlerPc ls [.ref q])) : vx_W p l e R s m args below meth c H locs cells slots Q (F0 m pc ls rest) q := by
  intro T hT X
  have hpl : e.platform.magicAccessors = ({} : Platform).magicAccessors := by rw [X.admits.platform]
  obtain ⟨c3, c4, hc3, hc4, hasg⟩ := Cond.castable_spec hcast
  cases Option.some.inj (hc3.symm.trans hcl)
  obtain ⟨c5, hc5, hcl5⟩ := Cond.classLink_spec hown hlink e.platform hpl
  cases Option.some.inj (hc4.symm.trans hc5)
  obtain ⟨vm', X', st⟩ := X.thenCaughtThrough q (g := F0 m pc ls rest) rfl (Steps.refl _) (by rw [hT]; exact hcell) (by rw [hv]; rfl) (by obtain ⟨k9, h9, -⟩ := Vm.findClass_spec hcl; exact ⟨k9, h9⟩) pre x suf hsplit
    (fun z hz => by
      rcases hpass z hz with h | ⟨hz0, nm, hl1, hn1⟩
      · exact Or.inl h
      · obtain ⟨c6, hc6, hcl6⟩ := Cond.classLink_spec hown hl1 e.platform hpl
        obtain ⟨a8, b8, h1, h2, h3⟩ := hn1
        cases Option.some.inj (h1.symm.trans hcl)
        cases Option.some.inj (h2.symm.trans hc6)
        exact Or.inr ⟨hz0, _, hcl6, h3⟩) hx (Or.inr ⟨h0, c4, hcl5, hasg⟩)
  obtain ⟨t, a1, b1⟩ := kk (T.setVm vm') hT X'
  exact ⟨t, st.trans a1, b1⟩
end Rows
section Ends
variable {p : Program} {l : Launch} {e : Env} {R : Room} {s : State} {m : MethodId} {args : Array Value} {below : List Frame} {meth : Method} {c : Code} {H : Heap} {locs : List Loc} {cells slots : Nat} {Q : State → Prop}
variable {mc ms : Nat} {free : Addr → Prop} {A0 A1 : Nat → Prop} {H0 : Heap} {a : Array Value} {ls : Array Slot} {st0 rest : List Value}
variable {Qc : Array Value → State → Outcome → State → Prop} {XC : String → State → State → Prop}
/-- what a body that may throw owes at its end -/
def vx_MQ (below : List Frame) (Qc : Array Value → State → Outcome → State → Prop) (XC : String → State → State → Prop) (a : Array Value) (s : State) (mc ms : Nat) (free : Addr → Prop) : State → Prop := fun t =>
  ∃ o, t.status = .running ∧ Ended t below o ∧ vx_Q Qc XC mc ms free a s o t
theorem vx_ret {g : JFrame} {mc ms : Nat} (k : W p l e R s m args below meth c H locs cells slots (MQ below Qc args s mc ms free) g) : W p l e R s m args below meth c H locs cells slots (vx_MQ below Qc XC args s mc ms free) g := by
  intro T hT X
  obtain ⟨t, a1, o, b1, b2, b3, b4⟩ := k T hT X
  exact ⟨t, a1, o, b1, b2, Or.inl ⟨b3, b4⟩⟩
/-- not caught here: it goes on to the caller -/
theorem vx_widen {g : JFrame} {q : Addr} {k n : Nat} (h1 : cells ≤ k) (h2 : slots ≤ n) (kk : vx_W p l e R s m args below meth c H locs k n Q g q) : vx_W p l e R s m args below meth c H locs cells slots Q g q := fun T hT X => kk T hT (stand_widen X h1 h2)
theorem vx_out {pc : Nat} {E : String} {ce : Cell} {q : Addr} {mc ms : Nat} (hout : ∀ x ∈ c.exceptionTable.toList, covers x pc = false) (hlocks : meth.locks = false) (hcell : H[q]? = some ce) (hv : ce.vm = .none) (hcl : s.vm.findClass E = some ce.cls)
    (hx : ∀ t : State, t.heap = H → s.vm.Alike t.vm → XC E s t) (hf : ∀ z ∈ locs, free z.base) (hc : cells ≤ mc) (hs : slots ≤ ms) :
    vx_W p l e R s m args below meth c H locs cells slots (vx_MQ below Qc XC args s mc ms free) (F0 m pc ls rest) q := by
  intro T hT X
  obtain ⟨st1, hrun, hend, hW, hsm⟩ := X.leaveThrown q (g := F0 m pc ls rest) rfl rfl rfl hout hlocks
  have hcell9 : (T.setFrames (.throwing q :: below)).heap[q]? = some ce := by
    show T.heap[q]? = some ce
    rw [hT]; exact hcell
  exact ⟨_, st1, .threw q, hrun, hend, Or.inr ⟨q, rfl, E, ce, locs, hx _ hT hW.alike, hcell9, hv, hcl, hW, hsm.mono hc hs, hf⟩⟩
theorem vx_frame {U : State} {k n : Nat} (h : s.sameButNew ({ U with vm := s.vm } : State) locs k n) : s.heap.size ≤ U.heap.size ∧ ∀ q : Nat, q < s.heap.size → (∀ z ∈ locs, z.base ≠ q) → U.heap[q]? = s.heap[q]? := by
  obtain ⟨-, h2, -, -, -, h6⟩ := h
  refine ⟨h2, fun q hq hz => ?_⟩
  obtain ⟨c9, e1, e2, e3, e4⟩ := h6 q _ (Array.getElem?_eq_getElem hq)
  have hs : c9.slots = (s.heap[q]).slots := Array.ext_getElem? fun i => e4 i fun hm => hz _ hm rfl
  have h9 : c9 = s.heap[q] := by
    rw [hs] at e2
    exact e2
  have e5 : U.heap[q]? = some c9 := e1
  rw [e5, h9, Array.getElem?_eq_getElem hq]
/-- the words of a throw but the four that speak of the heap -/
def vx_no (w : Cond) : Bool := decide (w ≠ .isRef (.static Bundle.tN "UNASSIGNED_STACK" Bundle.steD)) && decide (w ≠ .isRef (.static Bundle.tN "SUPPRESSED_SENTINEL" Bundle.listD)) && decide (w ≠ .laysStatic Bundle.tN "UNASSIGNED_STACK" Bundle.steD) && decide (w ≠ .laysStatic Bundle.tN "SUPPRESSED_SENTINEL" Bundle.listD)
def vx_at0 (own : String) (ic : Nat) (X : String) (names : List String) : List Cond := (Bundle.ownAtoms0 own ic X names).filter vx_no
def vx_atS (own : String) (ic : Nat) (X : String) (names : List String) : List Cond := (Bundle.ownAtoms own ic X names).filter vx_no
/-- a word that the tables alone decide, or a good one -/
def vx_ot (w : Cond) : Bool := w.onTables || goodWord w
theorem vx_ot_at {args a' : Array Value} {s U : State} {w : Cond} (hW : s.WarmedH U.vm) (hvm : s.vm = U.vm) (hg : vx_ot w = true) (h : w.before args s = true) : w.before a' U = true := by
  simp only [vx_ot, Bool.or_eq_true] at hg
  rcases hg with hg | hg
  · exact va_tabs hg hvm h
  · exact word_at hW (good_of_word hg) h
/-- a list's words: the good ones out of the method's own list, the others by premises of their own -/
theorem vx_hat {args : Array Value} {s : State} {L B : List Cond} (h1 : ∀ w ∈ L.filter goodWord, w.before args s = true) (h2 : ∀ w ∈ L.filter (fun w => !goodWord w), w ∈ B) (h3 : ∀ w ∈ B, w.before args s = true) : ∀ w ∈ L, w.before args s = true := by
  intro w hw
  by_cases g : goodWord w = true
  · exact h1 w (List.mem_filter.mpr ⟨hw, g⟩)
  · refine h3 w (h2 w (List.mem_filter.mpr ⟨hw, ?_⟩))
    show (!goodWord w) = true
    cases hgw : goodWord w
    · rfl
    · exact absurd hgw g
theorem vx_c {args : Array Value} {s : State} {w : Cond} {B : List Cond} (h : w.before args s = true) (t : ∀ w ∈ B, w.before args s = true) : ∀ w' ∈ w :: B, w'.before args s = true := fun w' h' => (List.mem_cons.mp h').elim (fun e => by rw [e]; exact h) (t w')
theorem vx_n {args : Array Value} {s : State} : ∀ w ∈ ([] : List Cond), w.before args s = true := fun _ h => nomatch h
theorem vx_own {args : Array Value} {s : State} {L : List Cond} (h1 : ∀ w ∈ L.filter vx_no, w.before args s = true)
    (hU : (Cond.isRef (.static Bundle.tN "UNASSIGNED_STACK" Bundle.steD)).before args s = true) (hN : (Cond.isRef (.static Bundle.tN "SUPPRESSED_SENTINEL" Bundle.listD)).before args s = true)
    (lU : (Cond.laysStatic Bundle.tN "UNASSIGNED_STACK" Bundle.steD).before args s = true) (lN : (Cond.laysStatic Bundle.tN "SUPPRESSED_SENTINEL" Bundle.listD).before args s = true) : ∀ w ∈ L, w.before args s = true := by
  intro w hw
  by_cases e1 : w = .isRef (.static Bundle.tN "UNASSIGNED_STACK" Bundle.steD)
  · rw [e1]; exact hU
  · by_cases e2 : w = .isRef (.static Bundle.tN "SUPPRESSED_SENTINEL" Bundle.listD)
    · rw [e2]; exact hN
    · by_cases e3 : w = .laysStatic Bundle.tN "UNASSIGNED_STACK" Bundle.steD
      · rw [e3]; exact lU
      · by_cases e4 : w = .laysStatic Bundle.tN "SUPPRESSED_SENTINEL" Bundle.listD
        · rw [e4]; exact lN
        · exact h1 w (List.mem_filter.mpr ⟨hw, by unfold vx_no; rw [decide_eq_true e1, decide_eq_true e2, decide_eq_true e3, decide_eq_true e4]; rfl⟩)
/-- where a static field lies, its class's statics cell in H -/
def vx_L (C n d : String) (A : Nat → Prop) (U : State) (H : Heap) : Prop := ∃ (c : ClassId) (k : Class) (i : Nat) (f : Field) (a : Nat) (cell : Cell), U.vm.findClass C = some c ∧ U.fieldFound? C n d = some (c, k, i, f) ∧ f.isStatic = true ∧ k.statics = some a ∧ H[a]? = some cell ∧ cell.vm.isStatics = true ∧ cell.cls = c ∧ f.slot < cell.slots.size ∧ k.staticTypes[f.slot]? = some f.type ∧ ¬ A a
theorem vx_L.moved {C n d : String} {A : Nat → Prop} {u U : State} {H : Heap} (hvm : u.vm.Alike U.vm) (h : vx_L C n d A u H) : vx_L C n d A U H := by
  obtain ⟨c, k, i, f, a, cell, h1, h2, h3, h4, h5, h6, h7, h8, h9, h10⟩ := h
  obtain ⟨k', hi', he⟩ := State.fieldFound?_setVm hvm h2
  exact ⟨c, k', i, f, a, cell, by rw [hvm.findClass]; exact h1, hi', h3, by rw [he]; exact h4, h5, h6, h7, h8, by rw [he]; exact h9, h10⟩
theorem vx_L.kept {C n d : String} {A : Nat → Prop} {U : State} {H H1 : Heap} (h : vx_L C n d A U H) (hq : ∀ a : Nat, a < H.size → ¬ A a → H1[a]? = H[a]?) : vx_L C n d A U H1 := by
  obtain ⟨c, k, i, f, a, cell, h1, h2, h3, h4, h5, h6, h7, h8, h9, h10⟩ := h
  exact ⟨c, k, i, f, a, cell, h1, h2, h3, h4, by rw [hq a (Array.getElem?_eq_some_iff.mp h5).1 h10]; exact h5, h6, h7, h8, h9, h10⟩
theorem vx_L.narrow {C n d : String} {A B : Nat → Prop} {U : State} {H : Heap} (h : vx_L C n d A U H) (hAB : ∀ q, B q → A q) : vx_L C n d B U H := by
  obtain ⟨c, k, i, f, a, cell, h1, h2, h3, h4, h5, h6, h7, h8, h9, h10⟩ := h
  exact ⟨c, k, i, f, a, cell, h1, h2, h3, h4, h5, h6, h7, h8, h9, fun z => h10 (hAB _ z)⟩
theorem vx_L.word {C n d : String} {A : Nat → Prop} {s : State} {args : Array Value} (h : vx_L C n d A s s.heap) : (Cond.laysStatic C n d).before args s = true := by
  obtain ⟨c, k, i, f, a, cell, h1, h2, h3, h4, h5, h6, h7, h8, h9, -⟩ := h
  show (Cond.laysStatic C n d).holds args s none s [] = true
  exact Cond.laysStatic_of h1 h2 h3 h4 h5 h6 h7 h8 h9
/-- .. and what it holds: null or some reference -/
def vx_Zq (C n d : String) (A : Nat → Prop) (U : State) (H : Heap) : Prop := va_Zq C n d A U H ∧ vx_L C n d A U H
theorem vx_Zq.moved {C n d : String} {A : Nat → Prop} {u U : State} {H : Heap} (hvm : u.vm.Alike U.vm) (h : vx_Zq C n d A u H) : vx_Zq C n d A U H := ⟨va_Zq.moved hvm h.1, vx_L.moved hvm h.2⟩
theorem vx_Zq.kept {C n d : String} {A : Nat → Prop} {U : State} {H H1 : Heap} (h : vx_Zq C n d A U H) (hq : ∀ a : Nat, a < H.size → ¬ A a → H1[a]? = H[a]?) : vx_Zq C n d A U H1 := ⟨va_Zq.kept h.1 hq, vx_L.kept h.2 hq⟩
theorem vx_Zq.narrow {C n d : String} {A B : Nat → Prop} {U : State} {H : Heap} (h : vx_Zq C n d A U H) (hAB : ∀ q, B q → A q) : vx_Zq C n d B U H := ⟨va_Zq.narrow h.1 hAB, vx_L.narrow h.2 hAB⟩
theorem vx_Zqof {args : Array Value} {s : State} {C n d : String} {A : Nat → Prop} (hl : (Cond.laysStatic C n d).before args s = true) (hini : (Cond.initialized C).before args s = true) (h : (Cond.isRef (.static C n d)).before args s = true) (hA : ∀ a : Nat, a < s.heap.size → ¬ A a) : vx_Zq C n d A s s.heap := by
  refine ⟨va_Zqof hl hini h hA, ?_⟩
  obtain ⟨c, k, i, f, a, cell, h1, h2, h3, h4, h5, h6, h7, h8, h9⟩ := Cond.laysStatic_spec hl
  exact ⟨c, k, i, f, a, cell, h1, h2, h3, h4, h5, h6, h7, h8, h9, hA a (Array.getElem?_eq_some_iff.mp h5).1⟩
theorem vx_isRef {C n d : String} {v : Value} {A : Nat → Prop} {s : State} {args : Array Value} (h : va_Z C n d v A s s.heap) (hv : v.isRef = true) : (Cond.isRef (.static C n d)).before args s = true := by
  obtain ⟨cf, kf, fi, f, a, cell, h1, h2, h3, h4, h5, h6, h7, -⟩ := h
  have he : (Term.static C n d).eval args s none [] s = some v := by
    simp [Term.eval, State.fieldNamed?, h1, h2, h4, h5, h6, h7]
  simp only [Cond.before, Cond.holds, Cond.value, he]
  cases v <;> simp_all [Value.isRef]
theorem vx_isRefq {C n d : String} {A : Nat → Prop} {s : State} {args : Array Value} (h : va_Zq C n d A s s.heap) : (Cond.isRef (.static C n d)).before args s = true := by
  rcases h with h | ⟨t, h⟩
  · exact vx_isRef h rfl
  · exact vx_isRef h rfl
/-- the same frame, seen from here: as if the method were called anew in this heap -/
theorem vx_rebase {T : State} (X : Stand p l e R s m args below meth c T locs cells slots) {R' : Room} (hf : R'.frames ≤ R.frames) (hl : R'.locals ≤ R.locals) (hc : cells + R'.cells ≤ R.cells) (hs : slots + R'.slots ≤ R.slots) :
    Stand p l e R' ((T.setVm s.vm).setFrames (.invoking m args :: below)) m args below meth c T [] 0 0 := by
  have htop : (T.setVm s.vm).topJava?.isSome := X.here.top
  have hF : ((T.setVm s.vm).setFrames (.invoking m args :: below)).frames = .invoking m args :: below := State.frames_setFrames _ (State.cur_lt_of_top htop)
  obtain ⟨g₀, hg0⟩ := Option.isSome_iff_exists.mp htop
  obtain ⟨r, hr⟩ := State.topJava?_eq_some.mp hg0
  have hl9 : e.platform.stackLimits (T.setVm s.vm).me = e.platform.stackLimits s.me := X.limits
  have hb9 : (T.setVm s.vm).me.stackBytes = s.me.stackBytes := X.bytes
  refine ⟨X.admits, X.cas, X.clock, hF, ?_, X.hears, X.method, X.code, X.here, X.tail, X.warmed, ?_, ?_, ?_⟩
  · have h := X.room
    have hU : ((T.setVm s.vm).setFrames (.invoking m args :: below)).localsInUse = s.localsInUse := by
      rw [State.localsInUse_invoking hF (meth := meth) (c := c) X.method X.code, State.localsInUse_invoking X.frames X.method X.code]
    simp only [State.hasRoom, Bool.and_eq_true, decide_eq_true_eq] at h ⊢
    obtain ⟨⟨⟨⟨h1, h2, h3, h4, h5, h6⟩, h7⟩, h8⟩, h9⟩ := h
    rw [X.frames, List.length_cons] at h2 h3
    have q1 := X.heapSize
    have q2 := X.used
    simp only [hF, hU, List.length_cons, State.stackLimits_setFrames, State.stackBytes_setFrames, hl9, hb9]
    refine ⟨⟨⟨⟨by omega, by omega, by omega, by omega, by omega, h6⟩, ?_⟩, ?_⟩, X.book⟩
    · show T.heap.size + R'.cells ≤ e.platform.maxCells
      omega
    · show T.slotsUsed + R'.slots ≤ e.platform.maxSlots
      omega
  · rw [State.stackLimits_setFrames]; rfl
  · rw [State.stackBytes_setFrames]; rfl
  · refine ⟨?_, Nat.le_refl _, Nat.le_refl _, ?_, ?_, fun a c9 h9 => ⟨c9, h9, rfl, rfl, fun _ _ => rfl⟩⟩
    · obtain ⟨t, ht, -⟩ := State.frames_cons hr
      show T.setVm s.vm = { ((T.setVm s.vm).setFrames (.invoking m args :: below)).setFrames (T.setVm s.vm).frames with heap := T.heap, slotsUsed := T.slotsUsed }
      rw [State.setFrames_setFrames, State.setFrames_self ht]
      rfl
    · show T.slotsUsed = T.slotsUsed + ((T.heap.toList.drop T.heap.size).map (·.slots.size)).sum
      rw [List.drop_eq_nil_of_le (Nat.le_of_eq Array.length_toList)]
      rfl
    · show ((T.heap.toList.drop T.heap.size).map (·.slots.size)).sum ≤ 0
      rw [List.drop_eq_nil_of_le (Nat.le_of_eq Array.length_toList)]
      exact Nat.le_refl _
/-- 'throw new E()': new; dup; invokespecial; athrow -/
theorem vx_throw0 {cc : ByteArray} {pc : Nat} (hexec : p.tables.exec = Jvm.exec) (hb : c.code = cc) (hl : l.stackTraces = false) {own cls : String} {names : List String} {ik ic mc ms : Nat} {A : Nat → Prop}
    (hown : s.vm.findClass own = some m.cls) (hcls : Bundle.fit cls = true) (hnames : ∀ n ∈ names, Bundle.fit n = true)
    (hk : (Cond.classLink own ik cls).before args s = true) (hini : (Cond.initialized cls).before args s = true) (hat : ∀ w ∈ vx_at0 own ic cls names, w.before args s = true)
    (hgood : ∀ w ∈ Cond.classLink own ik cls :: Cond.initialized cls :: vx_at0 own ic cls names, vx_ot w = true)
    (hU : vx_Zq Bundle.tN "UNASSIGNED_STACK" Bundle.steD A s s.heap) (hN : vx_Zq Bundle.tN "SUPPRESSED_SENTINEL" Bundle.listD A s s.heap) (hS : va_S A s.heap H locs) (hsize : ls.size = c.maxLocals)
    (d0 : decode cc pc = .ok (.new ik, 3)) (d3 : decode cc (pc + 3) = .ok (.dup, 1)) (d4 : decode cc (pc + 4) = .ok (.invokespecial ic, 3)) (d7 : decode cc (pc + 7) = .ok (.athrow, 1))
    (hout : ∀ x ∈ c.exceptionTable.toList, covers x (pc + 7) = false)
    (hRframes : names.length + 3 < R.frames) (hRlocals : (rest.map fun v => v.category).sum + (13 * (names.length + 1) + 42) ≤ R.locals) (hRcells : cells + 1 ≤ R.cells) (hRslots : slots + 6 ≤ R.slots) (hlocks : meth.locks = false)
    (hx : ∀ t : State, s.vm.Alike t.vm → H.size ≤ t.heap.size → (∀ q : Nat, q < H.size → t.heap[q]? = H[q]?) → XC cls s t)
    (hf : ∀ z ∈ locs, free z.base) (hc : cells + 1 ≤ mc) (hs : slots + 6 ≤ ms) :
    W p l e R s m args below meth c H locs cells slots (vx_MQ below Qc XC args s mc ms free) (F0 m pc ls rest) := by
  intro T hT X
  have htr : e.platform.stackTraces = false := (show e.platform.stackTraces = l.stackTraces by rw [X.admits.platform]).trans hl
  have Y := vx_rebase X (R' := { frames := R.frames, locals := R.locals, cells := 1, slots := 6 }) (Nat.le_refl _) (Nat.le_refl _) hRcells hRslots
  obtain ⟨s', hA⟩ : ∃ z, z = (T.setVm s.vm).setFrames (.invoking m args :: below) := ⟨_, rfl⟩
  rw [← hA] at Y
  have hvm : s'.vm = s.vm := by rw [hA]; rfl
  have hhp : s'.heap = H := by rw [hA]; exact hT
  have hW0 : s.WarmedH s'.vm := by rw [hvm]; exact State.WarmedH.refl s
  have hat' : ∀ w ∈ vx_at0 own ic cls names, w.before args s' = true := fun w hw => vx_ot_at hW0 hvm.symm (hgood w (List.mem_cons_of_mem _ (List.mem_cons_of_mem _ hw))) (hat w hw)
  have hk' : (Cond.classLink own ik cls).before args s' = true := vx_ot_at hW0 hvm.symm (hgood _ List.mem_cons_self) hk
  have hini' : (Cond.initialized cls).before args s' = true := vx_ot_at hW0 hvm.symm (hgood _ (List.mem_cons_of_mem _ List.mem_cons_self)) hini
  have hU' : vx_Zq Bundle.tN "UNASSIGNED_STACK" Bundle.steD A s' s'.heap := by rw [hhp]; exact vx_Zq.moved hW0.alike (hU.kept hS.2.1)
  have hN' : vx_Zq Bundle.tN "SUPPRESSED_SENTINEL" Bundle.listD A s' s'.heap := by rw [hhp]; exact vx_Zq.moved hW0.alike (hN.kept hS.2.1)
  have h : ∀ w ∈ Bundle.ownAtoms0 own ic cls names, w.before args s' = true := vx_own hat' (vx_isRefq hU'.1) (vx_isRefq hN'.1) hU'.2.word hN'.2.word
  have hown' : s'.vm.findClass own = some m.cls := by rw [hvm]; exact hown
  have hins : (Cond.instantiable cls 6).before args s' = true := h _ (by simp [Bundle.ownAtoms0])
  obtain ⟨vm₁, cX, kX, hfX, hkX, -, -, X₁, st1⟩ := Y.newCold hexec (own := own) (C := cls) (index := ik) (n := 6) hown' hk' hins hini'
    (g := F0 m pc ls rest) rfl (by rw [hb]; exact d0) (Nat.le_refl _) (Nat.le_refl _)
  generalize hT1 : (T.setVm vm₁).pushCell { cls := cX, slots := kX.instanceTypes.map defaultValue, vm := .none } = T1 at X₁ st1
  have hcat : (Value.ref T.heap.size).category = 1 := rfl
  have hcellA : T1.heap[T.heap.size]? = some (freshCell cX kX) := by rw [← hT1]; exact State.heap_pushCell_size _ _
  have d3' : decode c.code (pc + 3) = .ok (.dup, 1) := by rw [hb]; exact d3
  obtain ⟨U, hsteps, hrun, hend, hW, hsame, ce, hce, hO⟩ := X₁.ctorThrow0 hexec htr (own := own) (cls := cls) (names := names) (ic := ic) hown' hcls hnames h (fun x hx => nomatch hx) hfX hkX hcellA (by rw [hhp, hT]; exact Nat.le_refl _)
    (g := { method := m, pc := pc + 4, locals := ls, stack := .ref T.heap.size :: .ref T.heap.size :: rest, locked := none }) rfl hsize rfl rfl (rest := rest) rfl
    (by rw [hb]; exact d4) (by rw [hb]; exact d7) hout hRframes (by simp only [List.map_cons, List.sum_cons, hcat]; omega) hlocks
  obtain ⟨f1, f2⟩ := vx_frame hsame
  rw [hhp] at f1 f2
  have hWs : s.WarmedH U.vm := State.WarmedH.trans hW0 hW
  have hcl : s.vm.findClass cls = some ce.cls := by
    have h9 := hO.cls
    rw [hvm] at h9
    exact h9
  have hall : s.sameButNew ({ U with vm := s.vm } : State) locs mc ms := by
    subst hA
    obtain ⟨e1, e2⟩ := hsame
    rw [State.setFrames_setFrames] at e1
    have h2 : (T.setVm s.vm).sameButNew ({ U with vm := s.vm } : State) [] (0 + 1) (0 + 6) := ⟨e1, e2⟩
    have h3 := X.same.trans h2
    rw [List.append_nil] at h3
    exact h3.mono hc hs
  refine ⟨U, ?_, .threw T.heap.size, hrun, hend, Or.inr ⟨T.heap.size, rfl, cls, ce, locs, hx U hWs.alike f1 (fun q hq => f2 q hq (fun z hz => nomatch hz)), hce, hO.vm, hcl, hWs, hall, hf⟩⟩
  refine st1 _ ?_
  show Steps p.tables e below (T1.setTop { method := m, pc := pc + 3, locals := ls, stack := .ref T.heap.size :: rest, locked := none }) _
  jvm_step X₁.here [X₁.here.top, hexec, d3', Value.category]
  exact hsteps
/-- 'throw new E("text")': new; dup; ldc; invokespecial; athrow -/
theorem vx_throwS {cc : ByteArray} {pc : Nat} (hexec : p.tables.exec = Jvm.exec) (hb : c.code = cc) (hl : l.stackTraces = false) {own cls text : String} {names : List String} {ik is ic mc ms sa : Nat} {A : Nat → Prop}
    (hown : s.vm.findClass own = some m.cls) (hcls : Bundle.fit cls = true) (hnames : ∀ n ∈ names, Bundle.fit n = true)
    (hk : (Cond.classLink own ik cls).before args s = true) (hini : (Cond.initialized cls).before args s = true) (hstr : vk_R own is text sa s) (hat : ∀ w ∈ vx_atS own ic cls names, w.before args s = true)
    (hgood : ∀ w ∈ Cond.classLink own ik cls :: Cond.initialized cls :: vx_atS own ic cls names, vx_ot w = true)
    (hU : vx_Zq Bundle.tN "UNASSIGNED_STACK" Bundle.steD A s s.heap) (hN : vx_Zq Bundle.tN "SUPPRESSED_SENTINEL" Bundle.listD A s s.heap) (hS : va_S A s.heap H locs) (hsize : ls.size = c.maxLocals)
    (d0 : decode cc pc = .ok (.new ik, 3)) (d3 : decode cc (pc + 3) = .ok (.dup, 1)) (d4 : decode cc (pc + 4) = .ok (.ldc is, 2)) (d6 : decode cc (pc + 6) = .ok (.invokespecial ic, 3)) (d9 : decode cc (pc + 9) = .ok (.athrow, 1))
    (hout : ∀ x ∈ c.exceptionTable.toList, covers x (pc + 9) = false)
    (hRframes : names.length + 3 < R.frames) (hRlocals : (rest.map fun v => v.category).sum + (13 * (names.length + 1) + 43) ≤ R.locals) (hRcells : cells + 1 ≤ R.cells) (hRslots : slots + 6 ≤ R.slots) (hlocks : meth.locks = false)
    (hx : ∀ t : State, s.vm.Alike t.vm → H.size ≤ t.heap.size → (∀ q : Nat, q < H.size → t.heap[q]? = H[q]?) → XC cls s t)
    (hf : ∀ z ∈ locs, free z.base) (hc : cells + 1 ≤ mc) (hs : slots + 6 ≤ ms) :
    W p l e R s m args below meth c H locs cells slots (vx_MQ below Qc XC args s mc ms free) (F0 m pc ls rest) := by
  intro T hT X
  have htr : e.platform.stackTraces = false := (show e.platform.stackTraces = l.stackTraces by rw [X.admits.platform]).trans hl
  have Y := vx_rebase X (R' := { frames := R.frames, locals := R.locals, cells := 1, slots := 6 }) (Nat.le_refl _) (Nat.le_refl _) hRcells hRslots
  obtain ⟨s', hA⟩ : ∃ z, z = (T.setVm s.vm).setFrames (.invoking m args :: below) := ⟨_, rfl⟩
  rw [← hA] at Y
  have hvm : s'.vm = s.vm := by rw [hA]; rfl
  have hhp : s'.heap = H := by rw [hA]; exact hT
  have hW0 : s.WarmedH s'.vm := by rw [hvm]; exact State.WarmedH.refl s
  have hat' : ∀ w ∈ vx_atS own ic cls names, w.before args s' = true := fun w hw => vx_ot_at hW0 hvm.symm (hgood w (List.mem_cons_of_mem _ (List.mem_cons_of_mem _ hw))) (hat w hw)
  have hk' : (Cond.classLink own ik cls).before args s' = true := vx_ot_at hW0 hvm.symm (hgood _ List.mem_cons_self) hk
  have hini' : (Cond.initialized cls).before args s' = true := vx_ot_at hW0 hvm.symm (hgood _ (List.mem_cons_of_mem _ List.mem_cons_self)) hini
  have hU' : vx_Zq Bundle.tN "UNASSIGNED_STACK" Bundle.steD A s' s'.heap := by rw [hhp]; exact vx_Zq.moved hW0.alike (hU.kept hS.2.1)
  have hN' : vx_Zq Bundle.tN "SUPPRESSED_SENTINEL" Bundle.listD A s' s'.heap := by rw [hhp]; exact vx_Zq.moved hW0.alike (hN.kept hS.2.1)
  have h : ∀ w ∈ Bundle.ownAtoms own ic cls names, w.before args s' = true := vx_own hat' (vx_isRefq hU'.1) (vx_isRefq hN'.1) hU'.2.word hN'.2.word
  have hown' : s'.vm.findClass own = some m.cls := by rw [hvm]; exact hown
  have hins : (Cond.instantiable cls 6).before args s' = true := h _ (by simp [Bundle.ownAtoms])
  obtain ⟨vm₁, cX, kX, hfX, hkX, -, -, X₁, st1⟩ := Y.newCold hexec (own := own) (C := cls) (index := ik) (n := 6) hown' hk' hins hini'
    (g := F0 m pc ls rest) rfl (by rw [hb]; exact d0) (Nat.le_refl _) (Nat.le_refl _)
  generalize hT1 : (T.setVm vm₁).pushCell { cls := cX, slots := kX.instanceTypes.map defaultValue, vm := .none } = T1 at X₁ st1
  have hcat : (Value.ref T.heap.size).category = 1 := rfl
  have hcellA : T1.heap[T.heap.size]? = some (freshCell cX kX) := by rw [← hT1]; exact State.heap_pushCell_size _ _
  have d3' : decode c.code (pc + 3) = .ok (.dup, 1) := by rw [hb]; exact d3
  have d4' : decode c.code (pc + 4) = .ok (.ldc is, 2) := by rw [hb]; exact d4
  have hstr' : vk_R own is text sa s' := vk_R.warm hW0 hstr
  obtain ⟨U, hsteps, hrun, hend, hW, hsame, ce, hce, hO⟩ := X₁.ctorThrowS hexec htr (own := own) (cls := cls) (names := names) (ic := ic) hown' hcls hnames h (fun x hx => nomatch hx) hfX hkX hcellA (by rw [hhp, hT]; exact Nat.le_refl _) (msg := .ref sa) rfl
    (g := { method := m, pc := pc + 6, locals := ls, stack := .ref sa :: .ref T.heap.size :: .ref T.heap.size :: rest, locked := none }) rfl hsize rfl rfl (rest := rest) rfl
    (by rw [hb]; exact d6) (by rw [hb]; exact d9) hout hRframes (by simp only [List.map_cons, List.sum_cons, hcat]; omega) hlocks
  obtain ⟨f1, f2⟩ := vx_frame hsame
  rw [hhp] at f1 f2
  have hWs : s.WarmedH U.vm := State.WarmedH.trans hW0 hW
  have hcl : s.vm.findClass cls = some ce.cls := by
    have h9 := hO.cls
    rw [hvm] at h9
    exact h9
  have hall : s.sameButNew ({ U with vm := s.vm } : State) locs mc ms := by
    subst hA
    obtain ⟨e1, e2⟩ := hsame
    rw [State.setFrames_setFrames] at e1
    have h2 : (T.setVm s.vm).sameButNew ({ U with vm := s.vm } : State) [] (0 + 1) (0 + 6) := ⟨e1, e2⟩
    have h3 := X.same.trans h2
    rw [List.append_nil] at h3
    exact h3.mono hc hs
  refine ⟨U, ?_, .threw T.heap.size, hrun, hend, Or.inr ⟨T.heap.size, rfl, cls, ce, locs, hx U hWs.alike f1 (fun q hq => f2 q hq (fun z hz => nomatch hz)), hce, hO.vm, hcl, hWs, hall, hf⟩⟩
  refine st1 _ ?_
  show Steps p.tables e below (T1.setTop { method := m, pc := pc + 3, locals := ls, stack := .ref T.heap.size :: rest, locked := none }) _
  jvm_step X₁.here [X₁.here.top, hexec, d3', Value.category]
  exact X₁.ldcString hexec (own := own) (text := text) (index := is) (a := sa) hown' hstr'.1 hstr'.2
    (g := { method := m, pc := pc + 4, locals := ls, stack := .ref T.heap.size :: .ref T.heap.size :: rest, locked := none }) rfl d4' _ hsteps
/-- 'throw new E("text")', the text by a wide index -/
theorem vx_throwSW {cc : ByteArray} {pc : Nat} (hexec : p.tables.exec = Jvm.exec) (hb : c.code = cc) (hl : l.stackTraces = false) {own cls text : String} {names : List String} {ik is ic mc ms sa : Nat} {A : Nat → Prop}
    (hown : s.vm.findClass own = some m.cls) (hcls : Bundle.fit cls = true) (hnames : ∀ n ∈ names, Bundle.fit n = true)
    (hk : (Cond.classLink own ik cls).before args s = true) (hini : (Cond.initialized cls).before args s = true) (hstr : vk_R own is text sa s) (hat : ∀ w ∈ vx_atS own ic cls names, w.before args s = true)
    (hgood : ∀ w ∈ Cond.classLink own ik cls :: Cond.initialized cls :: vx_atS own ic cls names, vx_ot w = true)
    (hU : vx_Zq Bundle.tN "UNASSIGNED_STACK" Bundle.steD A s s.heap) (hN : vx_Zq Bundle.tN "SUPPRESSED_SENTINEL" Bundle.listD A s s.heap) (hS : va_S A s.heap H locs) (hsize : ls.size = c.maxLocals)
    (d0 : decode cc pc = .ok (.new ik, 3)) (d3 : decode cc (pc + 3) = .ok (.dup, 1)) (d4 : decode cc (pc + 4) = .ok (.ldc_w is, 3)) (d7 : decode cc (pc + 7) = .ok (.invokespecial ic, 3)) (d10 : decode cc (pc + 10) = .ok (.athrow, 1))
    (hout : ∀ x ∈ c.exceptionTable.toList, covers x (pc + 10) = false)
    (hRframes : names.length + 3 < R.frames) (hRlocals : (rest.map fun v => v.category).sum + (13 * (names.length + 1) + 43) ≤ R.locals) (hRcells : cells + 1 ≤ R.cells) (hRslots : slots + 6 ≤ R.slots) (hlocks : meth.locks = false)
    (hx : ∀ t : State, s.vm.Alike t.vm → H.size ≤ t.heap.size → (∀ q : Nat, q < H.size → t.heap[q]? = H[q]?) → XC cls s t)
    (hf : ∀ z ∈ locs, free z.base) (hc : cells + 1 ≤ mc) (hs : slots + 6 ≤ ms) :
    W p l e R s m args below meth c H locs cells slots (vx_MQ below Qc XC args s mc ms free) (F0 m pc ls rest) := by
  intro T hT X
  have htr : e.platform.stackTraces = false := (show e.platform.stackTraces = l.stackTraces by rw [X.admits.platform]).trans hl
  have Y := vx_rebase X (R' := { frames := R.frames, locals := R.locals, cells := 1, slots := 6 }) (Nat.le_refl _) (Nat.le_refl _) hRcells hRslots
  obtain ⟨s', hA⟩ : ∃ z, z = (T.setVm s.vm).setFrames (.invoking m args :: below) := ⟨_, rfl⟩
  rw [← hA] at Y
  have hvm : s'.vm = s.vm := by rw [hA]; rfl
  have hhp : s'.heap = H := by rw [hA]; exact hT
  have hW0 : s.WarmedH s'.vm := by rw [hvm]; exact State.WarmedH.refl s
  have hat' : ∀ w ∈ vx_atS own ic cls names, w.before args s' = true := fun w hw => vx_ot_at hW0 hvm.symm (hgood w (List.mem_cons_of_mem _ (List.mem_cons_of_mem _ hw))) (hat w hw)
  have hk' : (Cond.classLink own ik cls).before args s' = true := vx_ot_at hW0 hvm.symm (hgood _ List.mem_cons_self) hk
  have hini' : (Cond.initialized cls).before args s' = true := vx_ot_at hW0 hvm.symm (hgood _ (List.mem_cons_of_mem _ List.mem_cons_self)) hini
  have hU' : vx_Zq Bundle.tN "UNASSIGNED_STACK" Bundle.steD A s' s'.heap := by rw [hhp]; exact vx_Zq.moved hW0.alike (hU.kept hS.2.1)
  have hN' : vx_Zq Bundle.tN "SUPPRESSED_SENTINEL" Bundle.listD A s' s'.heap := by rw [hhp]; exact vx_Zq.moved hW0.alike (hN.kept hS.2.1)
  have h : ∀ w ∈ Bundle.ownAtoms own ic cls names, w.before args s' = true := vx_own hat' (vx_isRefq hU'.1) (vx_isRefq hN'.1) hU'.2.word hN'.2.word
  have hown' : s'.vm.findClass own = some m.cls := by rw [hvm]; exact hown
  have hins : (Cond.instantiable cls 6).before args s' = true := h _ (by simp [Bundle.ownAtoms])
  obtain ⟨vm₁, cX, kX, hfX, hkX, -, -, X₁, st1⟩ := Y.newCold hexec (own := own) (C := cls) (index := ik) (n := 6) hown' hk' hins hini'
    (g := F0 m pc ls rest) rfl (by rw [hb]; exact d0) (Nat.le_refl _) (Nat.le_refl _)
  generalize hT1 : (T.setVm vm₁).pushCell { cls := cX, slots := kX.instanceTypes.map defaultValue, vm := .none } = T1 at X₁ st1
  have hcat : (Value.ref T.heap.size).category = 1 := rfl
  have hcellA : T1.heap[T.heap.size]? = some (freshCell cX kX) := by rw [← hT1]; exact State.heap_pushCell_size _ _
  have d3' : decode c.code (pc + 3) = .ok (.dup, 1) := by rw [hb]; exact d3
  have d4' : decode c.code (pc + 4) = .ok (.ldc_w is, 3) := by rw [hb]; exact d4
  have hstr' : vk_R own is text sa s' := vk_R.warm hW0 hstr
  obtain ⟨U, hsteps, hrun, hend, hW, hsame, ce, hce, hO⟩ := X₁.ctorThrowS hexec htr (own := own) (cls := cls) (names := names) (ic := ic) hown' hcls hnames h (fun x hx => nomatch hx) hfX hkX hcellA (by rw [hhp, hT]; exact Nat.le_refl _) (msg := .ref sa) rfl
    (g := { method := m, pc := pc + 7, locals := ls, stack := .ref sa :: .ref T.heap.size :: .ref T.heap.size :: rest, locked := none }) rfl hsize rfl rfl (rest := rest) rfl
    (by rw [hb]; exact d7) (by rw [hb]; exact d10) hout hRframes (by simp only [List.map_cons, List.sum_cons, hcat]; omega) hlocks
  obtain ⟨f1, f2⟩ := vx_frame hsame
  rw [hhp] at f1 f2
  have hWs : s.WarmedH U.vm := State.WarmedH.trans hW0 hW
  have hcl : s.vm.findClass cls = some ce.cls := by
    have h9 := hO.cls
    rw [hvm] at h9
    exact h9
  have hall : s.sameButNew ({ U with vm := s.vm } : State) locs mc ms := by
    subst hA
    obtain ⟨e1, e2⟩ := hsame
    rw [State.setFrames_setFrames] at e1
    have h2 : (T.setVm s.vm).sameButNew ({ U with vm := s.vm } : State) [] (0 + 1) (0 + 6) := ⟨e1, e2⟩
    have h3 := X.same.trans h2
    rw [List.append_nil] at h3
    exact h3.mono hc hs
  refine ⟨U, ?_, .threw T.heap.size, hrun, hend, Or.inr ⟨T.heap.size, rfl, cls, ce, locs, hx U hWs.alike f1 (fun q hq => f2 q hq (fun z hz => nomatch hz)), hce, hO.vm, hcl, hWs, hall, hf⟩⟩
  refine st1 _ ?_
  show Steps p.tables e below (T1.setTop { method := m, pc := pc + 3, locals := ls, stack := .ref T.heap.size :: rest, locked := none }) _
  jvm_step X₁.here [X₁.here.top, hexec, d3', Value.category]
  exact X₁.ldcStringW hexec (own := own) (text := text) (index := is) (a := sa) hown' hstr'.1 hstr'.2
    (g := { method := m, pc := pc + 4, locals := ls, stack := .ref T.heap.size :: .ref T.heap.size :: rest, locked := none }) rfl d4' _ hsteps
end Ends
section Bodies
variable {l : Launch}
theorem vx_ofW {y : MethodName} {ws ws' : List Cond} {rm : Room} {Pc : Array Value → State → Prop} {Qc : Array Value → State → Outcome → State → Prop} {XC : String → State → State → Prop} {mc ms : Nat} {free : Addr → Prop} {cc : ByteArray} {maxL : Nat} {ret : Option FieldType}
    (hy : plainName y.cls = true) (hw : ws = Cond.code y cc maxL ret :: ws')
    (body : ∀ p e s m args below meth c s₁, BodyLoose p l y (headSpec ws rm) cc maxL ret e s m args below meth c s₁ → c.maxLocals = maxL → (∀ x ∈ c.exceptionTable.toList, False) → Pc args s →
      W p l e (headSpec ws rm).room s m args below meth c s.heap [] 0 0 (vx_MQ below Qc XC args s mc ms free) (entryFrame m args maxL)) : vx_Met l y ws rm Pc Qc XC mc ms free := by
  refine MetFree.of_bodyS (code := cc) (maxLocals := maxL) (ret := ret) hy ?_ ?_
  · intro args s m h hn
    obtain ⟨meth, c, h1, h2, h3, h4, h5, h6, -, -⟩ := Cond.code_spec hn (atoms_spec (ws := ws) h _ (by rw [hw]; exact List.mem_cons_self))
    exact ⟨meth, c, h1, h2, h3, h4, h5, h6⟩
  · intro p e s m args below meth c s₁ B hml hP _
    have hh0 : s₁.heap = s.heap := by rw [B.state]; rfl
    have ht : ∀ x ∈ c.exceptionTable.toList, False := by
      obtain ⟨meth9, c9, h1, h2, -, -, -, -, h7, -⟩ := Cond.code_spec B.named (atoms_spec (ws := ws) B.pre _ (by rw [hw]; exact List.mem_cons_self))
      cases Option.some.inj (h1.symm.trans B.method)
      cases Option.some.inj (h2.symm.trans (Stand.of_body B).code)
      intro x hx
      rw [Array.isEmpty_iff.mp h7] at hx
      cases hx
    obtain ⟨t, a1, o, b1, b2, b3⟩ := body p e s m args below meth c s₁ B hml ht hP s₁ hh0 (Stand.of_body B)
    exact ⟨t, o, a1, b1, b2, b3⟩
/-- the table of a body with handlers -/
theorem vx_table {p : Program} {x y : MethodName} {S : Spec} {cc bytes : ByteArray} {maxL maxL' : Nat} {ret ret' : Option FieldType} {e : Env} {s s₁ : State} {m : MethodId} {args : Array Value} {below : List Frame} {meth : Method} {c : Code} {hh : List (Nat × Nat × Nat × Nat)}
    (B : BodyLoose p l y S cc maxL ret e s m args below meth c s₁) (h : (Cond.codeWith y bytes maxL' ret' hh).before args s = true) : c.exceptionTable.toList = tableOf hh := by
  obtain ⟨m9, meth9, c9, hn9, h1, h2, -, -, h6, -⟩ := Cond.codeWith_spec h
  cases Option.some.inj (hn9.symm.trans B.named)
  cases Option.some.inj (h1.symm.trans B.method)
  cases Option.some.inj (h2.symm.trans (Stand.of_body B).code)
  rw [← h6, table_eq]
end Bodies
end VXA
/-! ===== END ===== -/
/-! ===== BEGIN a static call of a method with an exception table ===== -/
section VXS
variable {p : Program} {l : Launch} {e : Env} {R : Room} {s : State} {m : MethodId} {args : Array Value} {below : List Frame} {meth : Method} {c : Code} {T : State} {H : Heap} {locs : List Loc} {cells slots : Nat}
abbrev vx_CSW (R : Room) (s : State) (args : Array Value) (own : String) (index : Nat) (y : MethodName) (bytes : ByteArray) (maxL : Nat) (ret : Option FieldType) (hh : List (Nat × Nat × Nat × Nat)) (ws : List Cond) (rm : Room) (mc ms n : Nat) : Prop :=
  (rm.cells = mc ∧ rm.slots = ms ∧ rm.frames + 1 ≤ R.frames ∧ 8 + (maxL + 11) + rm.locals ≤ R.locals ∧ (∀ w ∈ ws, ∀ (a' : Array Value) (U : State), s.WarmedH U.vm → w.before a' U = true) ∧ Cond.codeWith y bytes maxL ret hh ∈ ws) ∧
  (Cond.codeWith y bytes maxL ret hh).before args s = true ∧ (Cond.initialized y.cls).before args s = true ∧ (y.cls ≠ "java/lang/invoke/MethodHandle" ∧ y.cls ≠ "java/lang/invoke/VarHandle") ∧
  (∀ sig, parseMethodDescriptor y.desc = some sig → n = sig.parameters.length) ∧ (Cond.methodLink own index y).before args s = true ∧ (Cond.static y).before args s = true
theorem vx_cwSW {own : String} {index maxL mc ms : Nat} {y : MethodName} {bytes : ByteArray} {ret : Option FieldType} {hh : List (Nat × Nat × Nat × Nat)} {Ts ws ws' : List Cond} {rm : Room} (n : Nat) (ht : ∀ w ∈ Ts, w.before args s = true) (hT : GoodIn Ts (va_wsS own index y ws)) (hw : ws = Cond.codeWith y bytes maxL ret hh :: ws') (hrc : rm.cells = mc) (hrs : rm.slots = ms)
    (hd : y.cls ≠ "java/lang/invoke/MethodHandle" ∧ y.cls ≠ "java/lang/invoke/VarHandle" ∧ (parseMethodDescriptor y.desc).map (fun d => d.parameters.length) = some n) (hR : rm.frames + 1 ≤ R.frames ∧ 8 + (maxL + 11) + rm.locals ≤ R.locals) :
    vx_CSW R s args own index y bytes maxL ret hh ws rm mc ms n := by
  have ok : ∀ w ∈ va_wsS own index y ws, w.before args s = true := fun w h => ht w (hT w h).1
  have hG : GoodIn Ts ws := fun w h => hT w (by unfold va_wsS; exact List.mem_append_right _ h)
  have hc : Cond.codeWith y bytes maxL ret hh ∈ ws := by rw [hw]; exact List.mem_cons_self
  refine ⟨⟨hrc, hrs, hR.1, hR.2, pay_in ht hG, hc⟩, ht _ (hG _ hc).1, ok _ (by simp [va_wsS]), ⟨hd.1, hd.2.1⟩, fun sig h => ?_, ok _ (by simp [va_wsS]), ok _ (by simp [va_wsS])⟩
  have h2 := hd.2.2
  rw [h] at h2
  exact (Option.some.inj h2).symm
theorem vx_callSW (X : Stand p l e R s m args below meth c T locs cells slots) (hexec : p.tables.exec = Jvm.exec) {own : String} {index : Nat} {y : MethodName} {bytes : ByteArray} {maxL : Nat} {ret : Option FieldType} {hh : List (Nat × Nat × Nat × Nat)}
    (hown : s.vm.findClass own = some m.cls) (hlink : (Cond.methodLink own index y).before args s = true) (hstat : (Cond.static y).before args s = true) (hinit : (Cond.initialized y.cls).before args s = true)
    (hcode : (Cond.codeWith y bytes maxL ret hh).before args s = true) (hy : y.cls ≠ "java/lang/invoke/MethodHandle" ∧ y.cls ≠ "java/lang/invoke/VarHandle")
    {W9 : Nat} {Pre : Pt → Array Value → Prop} {Post : Pt → Array Value → Option Value → Pt → Prop} (hK : Back l R p e below s args y 3 W9 Pre Post)
    {g : JFrame} (hg : g.method = m) (hsize : g.locals.size = c.maxLocals) {argsL rest : List Value} (hlen : ∀ sig, parseMethodDescriptor y.desc = some sig → argsL.length = sig.parameters.length)
    (hstack : g.stack = argsL.reverse ++ rest) (hW : 2 * g.monitorRoom + (rest.map fun v => v.category).sum ≤ W9) (hdg : decode c.code g.pc = .ok (.invokestatic index, 3))
    (hpre : ∀ vm₁, s.WarmedH vm₁ → Pre ⟨T.setVm vm₁, locs, cells, slots⟩ argsL.toArray) :
    ∃ (v : Option Value) (vm₁ : Vm) (B : Pt), s.WarmedH vm₁ ∧ Stand p l e R s m args below meth c B.U B.locs B.cells B.slots ∧ Post ⟨T.setVm vm₁, locs, cells, slots⟩ argsL.toArray v B ∧
      ∀ target, Steps p.tables e below (B.U.setTop { g with pc := g.pc + 3, stack := v.toList ++ rest }) target → Steps p.tables e below (T.setTop g) target := by
  obtain ⟨mk, methM, cM, hnamed, hmethM, -, -, -, -, -, -, hsigM⟩ := Cond.codeWith_spec hcode
  have hstatic : methM.isStatic = true := Cond.static_spec hnamed hmethM hstat
  obtain ⟨kP, hkP, -⟩ := className_of_methodNamed hnamed
  have hinitP : kP.init = .initialized := Cond.initialized_spec (findClass_of_methodNamed hnamed) hkP hinit
  obtain ⟨vm₁, X₁, hstep₁⟩ := X.invokestatic hexec hown hlink hnamed hmethM hstatic hkP hinitP hy (g := g) hg (argsL := argsL) (rest := rest) (hlen _ hsigM) hstack hdg
  obtain ⟨v, B, X', hpost, hsteps⟩ := hK m meth c ⟨T.setVm vm₁, locs, cells, slots⟩ { g with stack := rest } (.invokestatic index) mk argsL.toArray X₁ hg hsize hdg hW (X₁.named hnamed) (hpre vm₁ X₁.warmed)
  exact ⟨v, vm₁, B, X₁.warmed, X', hpost, fun target h => hstep₁ _ fun acts => by rw [doInvoke_state]; exact hsteps.trans h⟩
theorem vx_runSW {y : MethodName} {bytes cc : ByteArray} {maxL nL mc ms n index : Nat} {ret : Option FieldType} {hh : List (Nat × Nat × Nat × Nat)} {ws : List Cond} {rm : Room} {Pc : Array Value → State → Prop} {Qc : Array Value → State → Outcome → State → Prop} {free : Addr → Prop} {Ts : List Cond} {own : String} {As rest : List Value} {g : JFrame}
    (S : CallFix p m c cc nL s args Ts own) (hM : Met l y ws rm Pc Qc mc ms free) (cw : vx_CSW R s args own index y bytes maxL ret hh ws rm mc ms n) (hp : PreS s H Pc As)
    (hg : g.method = m) (hn : As.length = n) (hsize : g.locals.size = nL) (hstack : g.stack = As.reverse ++ rest) (hW : 2 * g.monitorRoom + (rest.map fun v => v.category).sum ≤ 8) (hdg : decode cc g.pc = .ok (.invokestatic index, 3)) (hf : cells + mc ≤ R.cells ∧ slots + ms ≤ R.slots) :
    va_Run p l e R s m args below meth c H locs cells slots mc ms g rest (Qc As.toArray) (free) := by
  obtain ⟨⟨hrc, hrs, hfr, hlo, hws, hcw⟩, hcode, hini, hy, hlen, hl, hstt⟩ := cw
  have hK : Back l R p e below s args y 3 8 (PreOf R mc ms Pc) (PostOf Qc mc ms free) := va_backW (hh := hh) (bytes := bytes) (maxL := maxL) (ret := ret) hM hp.1 hrc hrs hfr hlo hws hcw (fun a' U hW => word_at hW (Or.inl (by first | rfl | simp [Cond.onTables, Cond.keeps, Cond.steady])) hini)
  obtain ⟨hx, hb, hml, ho, -⟩ := S
  intro T hT X
  obtain ⟨v, vm₁, ⟨U', l2, c2, s2⟩, hW₁, X', ⟨g', mk, t, L, e1, e2, hq, h1, hL, h2, h3⟩, st⟩ := vx_callSW X hx (hh := hh) (bytes := bytes) (maxL := maxL) (ret := ret) ho hl hstt hini hcode hy hK hg (hsize.trans hml.symm) (argsL := As) (rest := rest) (fun sig h => hn.trans (hlen sig h)) hstack hW (by rw [hb]; exact hdg)
    (fun vm₁ hW₁ => ⟨hf.1, hf.2, hp.2 (T.setVm vm₁) hT hW₁⟩)
  dsimp only [Pt.U, Pt.locs, Pt.cells, Pt.slots] at X' e1 e2 h1 h2 h3 st
  subst h1; subst h2; subst h3
  exact ⟨v, (T.setVm vm₁).calling g' mk As.toArray, t, U', L, hT, X', hL, e1, e2, hq, st⟩
/-- not caught here, past rows that name other classes: it goes on to the caller -/
theorem vx_outP {p : Program} {l : Launch} {e : Env} {R : Room} {s : State} {m : MethodId} {args : Array Value} {below : List Frame} {meth : Method} {c : Code} {H : Heap} {locs : List Loc} {cells slots : Nat} {free : Addr → Prop} {ls : Array Slot} {rest : List Value} {Qc : Array Value → State → Outcome → State → Prop} {XC : String → State → State → Prop}
    {pc : Nat} {own E : String} {ce : Cell} {q : Addr} {mc ms : Nat} (hown : s.vm.findClass own = some m.cls) (hlocks : meth.locks = false)
    (hpass : ∀ z ∈ c.exceptionTable.toList, covers z pc = false ∨ (z.catchType ≠ 0 ∧ ∃ nm : String, (Cond.classLink own z.catchType nm).before args s = true ∧ va_Nc E nm s)) (hcell : H[q]? = some ce) (hv : ce.vm = .none) (hcl : s.vm.findClass E = some ce.cls)
    (hx : ∀ t : State, t.heap = H → s.vm.Alike t.vm → XC E s t) (hf : ∀ z ∈ locs, free z.base) (hc : cells ≤ mc) (hs : slots ≤ ms) :
    vx_W p l e R s m args below meth c H locs cells slots (vx_MQ below Qc XC args s mc ms free) (F0 m pc ls rest) q := by
  intro T hT X
  have hpl : e.platform.magicAccessors = ({} : Platform).magicAccessors := by rw [X.admits.platform]
  obtain ⟨vm', hW', X', st⟩ := X.outThrough hlocks q (g := F0 m pc ls rest) rfl rfl rfl (cell := ce) (by rw [hT]; exact hcell) (by rw [hv]; rfl)
    (by obtain ⟨k9, h9, -⟩ := Vm.findClass_spec hcl; exact ⟨k9, h9⟩) (fun z hz => by
      rcases hpass z hz with h | ⟨hz0, nm, hl1, hn1⟩
      · exact Or.inl h
      · obtain ⟨c6, hc6, hcl6⟩ := Cond.classLink_spec hown hl1 e.platform hpl
        obtain ⟨a8, b8, h1, h2, h3⟩ := hn1
        cases Option.some.inj (h1.symm.trans hcl)
        cases Option.some.inj (h2.symm.trans hc6)
        exact Or.inr ⟨hz0, _, hcl6, h3⟩)
  obtain ⟨g₀, hfr⟩ := X'.frames_eq
  have hcell9 : ((T.setVm vm').setFrames (.throwing q :: below)).heap[q]? = some ce := by
    show T.heap[q]? = some ce
    rw [hT]; exact hcell
  have hend : Ended ((T.setVm vm').setFrames (.throwing q :: below)) below (.threw q) := State.frames_setFrames _ (State.cur_lt_of_frames hfr)
  refine ⟨(T.setVm vm').setFrames (.throwing q :: below), ?_, .threw q, X'.here.running, hend, Or.inr ⟨q, rfl, E, ce, locs, hx _ hT (X'.ends _).1.alike, hcell9, hv, hcl, (X'.ends _).1, (X'.ends _).2.mono hc hs, hf⟩⟩
  rw [X.pushThrowing_eq]
  exact st
/-- a thing of a world lies in the heap -/
theorem vx_lt {D : va_G} {cl : List vw_C} {ws : va_W} {H1 : Heap} (h : va_P D cl ws H1) {k : Nat} {q : Nat × va_E} (hk : ws[k]? = some q) : q.1 < H1.size := (h k q hk).lt
end VXS
/-! ===== END ===== -/
/-! ===== BEGIN methods with a table of their own: called by a name, returning or throwing ===== -/
section VXH
/-! vx_backW, vx_callVX, vx_callSX, vx_callVW, vx_runVW, vx_runVX, vx_runSX, vx_ofWH follow the same proofs as their sisters above (Free/Laws.lean, Shelf42/LK1.lean); vx_outP calls Shelf42/NT130.lean (outThrough). -/
section
variable {l : Launch} {R : Room} {p : Program} {e : Env} {below : List Frame} {s : State} {sargs : Array Value} {y : MethodName} {len W9 : Nat}
theorem vx_backW {ws : List Cond} {rm : Room} {Pc : Array Value → State → Prop} {Qc : Array Value → State → Outcome → State → Prop} {XC : String → State → State → Prop} {mc ms : Nat} {free : Addr → Prop} {bytes : ByteArray} {maxL : Nat} {ret : Option FieldType} {hh : List (Nat × Nat × Nat × Nat)}
    (hM : vx_Met l y ws rm Pc Qc XC mc ms free) (hblind : FrameBlind Pc) (hrc : rm.cells = mc) (hrs : rm.slots = ms)
    (hframes : rm.frames + 1 ≤ R.frames) (hlocals : W9 + (maxL + 11) + rm.locals ≤ R.locals)
    (hws : ∀ w ∈ ws, ∀ a' U, s.WarmedH U.vm → w.before a' U = true) (hcode : Cond.codeWith y bytes maxL ret hh ∈ ws) (hinit : ∀ a' U, s.WarmedH U.vm → (Cond.initialized y.cls).before a' U = true) :
    vx_Back l R p e below s sargs y len W9 (PreOf R mc ms Pc) (PostOf Qc mc ms free) (vx_Post XC mc ms free) := by
  intro m meth c A g ig mk a X hg hsize hdg hW hn hp
  have h1 : (headSpec ws rm).pre.before a A.U = true := atoms_intro fun w hw => hws w hw _ _ X.warmed
  have h2 : (Cond.codeWith y bytes maxL ret hh).before a A.U = true := hws _ hcode _ _ X.warmed
  have h3 : (Cond.initialized y.cls).before a A.U = true := hinit _ _ X.warmed
  have h4 : A.cells + (headSpec ws rm).room.cells ≤ R.cells := by rw [show (headSpec ws rm).room.cells = mc from hrc]; exact hp.1
  have h5 : A.slots + (headSpec ws rm).room.slots ≤ R.slots := by rw [show (headSpec ws rm).room.slots = ms from hrs]; exact hp.2.1
  have hPc : Pc a (A.U.calling g mk a) := hblind _ _ _ _ hp.2.2
  obtain ⟨U, Ls, c0, s0⟩ := A
  dsimp only [Pt.U, Pt.locs, Pt.cells, Pt.slots] at h1 h2 h3 h4 h5 X hn hPc ⊢
  obtain ⟨m9, methY, cY, hn9, hmY, hcY, -, hlY, -⟩ := Cond.codeWith_spec h2
  cases Option.some.inj (hn9.symm.trans hn)
  obtain ⟨kY, hkY, -⟩ := className_of_methodNamed hn
  have hinitY : kY.init = .initialized := Cond.initialized_spec (findClass_of_methodNamed hn) hkY h3
  have h : At U g.method c below := by rw [hg]; exact X.here
  have hlocals9 : W9 + (maxL + 11) + (headSpec ws rm).room.locals ≤ R.locals := hlocals
  have happ : (headSpec ws rm).appliesLoose y e.platform (U.calling g mk a) = true :=
    Spec.appliesLoose_calling (g := g) h hdg hn hkY hinitY
      (X.room_calling (g := g) (R' := (headSpec ws rm).room) hsize hmY hcY hframes (by rw [hlY]; omega) h4 h5) h1
  obtain ⟨mid, hmid⟩ := h.above
  have hfr : (U.setTop g).frames = (.java g :: mid) ++ below := by rw [State.frames_setTop' g h.top, hmid]; rfl
  obtain ⟨o, s₂, hsteps, -, hend, hq⟩ := Steps.callFree hM p X.admits X.cas X.clock (acts := []) hfr happ hPc trivial
  have hq' : vx_Q Qc XC mc ms free a (U.calling g mk a) o s₂ := hq
  rw [State.frames_setTop' g h.top] at hend
  obtain ⟨g₀, hg0⟩ := Option.isSome_iff_exists.mp h.top
  obtain ⟨r, hr⟩ := State.topJava?_eq_some.mp hg0
  have hr' : (({ U with heap := s₂.heap, slotsUsed := s₂.slotsUsed } : State).setVm s₂.vm).frames = .java g₀ :: r := hr
  rcases hq' with ⟨hqc, L, hfe, hL⟩ | ⟨q, rfl, E, ce, L, hx, hce, hcv, hcl, hW₂, hsm, hL⟩
  · obtain ⟨⟨v, rfl⟩, hW₂, e2, q2, q3, q4, q5, q6⟩ := id hfe
    have e3 : s₂ = ({ (U.calling g mk a).setFrames s₂.frames with heap := s₂.heap, slotsUsed := s₂.slotsUsed } : State).setVm s₂.vm := by
      have : s₂ = ({ s₂ with vm := (U.calling g mk a).vm } : State).setVm s₂.vm := rfl
      rw [e2] at this
      exact this
    obtain ⟨c₂, i₂, len₂, hc₂, hd₂, hf₂⟩ := hend
    have hW' : U.WarmedH s₂.vm := hW₂
    have hcc : c₂ = c := by
      have h1 : s₂.code? g.method = U.code? g.method := by
        rw [State.code?_eq, State.code?_eq, hW'.alike.method?]
      exact Option.some.inj (hc₂.symm.trans (h1.trans h.code))
    subst hcc
    have hlen : len₂ = len := by rw [hdg] at hd₂; cases hd₂; rfl
    subst hlen
    have hs₂ : s₂ = (({ U with heap := s₂.heap, slotsUsed := s₂.slotsUsed } : State).setVm s₂.vm).setTop { g with pc := g.pc + len₂, stack := v.toList ++ g.stack } := by
      refine e3.trans ?_
      rw [hf₂, State.calling_eq h.top, State.setFrames_setFrames, State.setTop_of_frames _ hr', hr]
      rfl
    have hsame : U.sameButNew ({ U with heap := s₂.heap, slotsUsed := s₂.slotsUsed } : State) L mc ms := by
      refine ⟨?_, q2, q3, q4, q5, q6⟩
      obtain ⟨t, ht, -⟩ := State.frames_cons hr
      show ({ U with heap := s₂.heap, slotsUsed := s₂.slotsUsed } : State) = { U.setFrames U.frames with heap := s₂.heap, slotsUsed := s₂.slotsUsed }
      rw [State.setFrames_self ht]
    subst hg
    refine Or.inl ⟨v, ⟨(({ U with heap := s₂.heap, slotsUsed := s₂.slotsUsed } : State).setVm s₂.vm), Ls ++ L, c0 + mc, s0 + ms⟩,
      ⟨X.admits, X.cas, X.clock, X.frames, X.room, X.hears, X.method, X.code, (X.here.setHeapUsed s₂.heap s₂.slotsUsed).setVm hW'.alike, X.tail, State.WarmedH.trans X.warmed hW', X.limits, X.bytes, X.same.trans (hsame.setVm s.vm)⟩,
      ⟨g, mk, s₂, L, rfl, rfl, hqc, rfl, hL, rfl, rfl⟩, ?_⟩
    show Steps p.tables e below _ ((({ U with heap := s₂.heap, slotsUsed := s₂.slotsUsed } : State).setVm s₂.vm).setTop { g with pc := g.pc + len₂, stack := v.toList ++ g.stack })
    rw [← hs₂]
    exact hsteps
  · obtain ⟨e2, q2, q3, q4, q5, q6⟩ := id hsm
    have e3 : s₂ = ({ (U.calling g mk a).setFrames s₂.frames with heap := s₂.heap, slotsUsed := s₂.slotsUsed } : State).setVm s₂.vm := by
      have : s₂ = ({ s₂ with vm := (U.calling g mk a).vm } : State).setVm s₂.vm := rfl
      rw [e2] at this
      exact this
    have hf₂ : s₂.frames = .throwing q :: .java g :: U.frames.tail := hend
    have hW' : U.WarmedH s₂.vm := hW₂
    have hs₂ : s₂ = ((({ U with heap := s₂.heap, slotsUsed := s₂.slotsUsed } : State).setVm s₂.vm).setTop g).pushFrame (.throwing q) := by
      refine e3.trans ?_
      rw [hf₂, State.calling_eq h.top, State.setFrames_setFrames, State.pushFrame, State.frames_setTop _ hr', State.setTop_of_frames _ hr', State.setFrames_setFrames, hr]
      rfl
    have hsame : U.sameButNew ({ U with heap := s₂.heap, slotsUsed := s₂.slotsUsed } : State) L mc ms := by
      refine ⟨?_, q2, q3, q4, q5, q6⟩
      obtain ⟨t, ht, -⟩ := State.frames_cons hr
      show ({ U with heap := s₂.heap, slotsUsed := s₂.slotsUsed } : State) = { U.setFrames U.frames with heap := s₂.heap, slotsUsed := s₂.slotsUsed }
      rw [State.setFrames_self ht]
    subst hg
    refine Or.inr ⟨q, ⟨(({ U with heap := s₂.heap, slotsUsed := s₂.slotsUsed } : State).setVm s₂.vm), Ls ++ L, c0 + mc, s0 + ms⟩,
      ⟨X.admits, X.cas, X.clock, X.frames, X.room, X.hears, X.method, X.code, (X.here.setHeapUsed s₂.heap s₂.slotsUsed).setVm hW'.alike, X.tail, State.WarmedH.trans X.warmed hW', X.limits, X.bytes, X.same.trans (hsame.setVm s.vm)⟩,
      ⟨g, mk, s₂, L, E, ce, rfl, rfl, hx, hce, hcv, hcl, rfl, hL, rfl, rfl⟩, ?_⟩
    show Steps p.tables e below _ (((({ U with heap := s₂.heap, slotsUsed := s₂.slotsUsed } : State).setVm s₂.vm).setTop g).pushFrame (.throwing q))
    rw [← hs₂]
    exact hsteps
end
variable {p : Program} {l : Launch} {e : Env} {R : Room} {s : State} {m : MethodId} {args : Array Value} {below : List Frame} {meth : Method} {c : Code} {T : State} {H : Heap} {locs : List Loc} {cells slots : Nat}
theorem vx_callVX (X : Stand p l e R s m args below meth c T locs cells slots) (hexec : p.tables.exec = Jvm.exec) {own C : String} {index : Nat} {y : MethodName} {bytes : ByteArray} {maxL : Nat} {ret : Option FieldType} {hh : List (Nat × Nat × Nat × Nat)}
    (hown : s.vm.findClass own = some m.cls) (hlink : (Cond.methodLink own index y).before args s = true) (hinst : (Cond.instanceMethod y).before args s = true) (hsel : (Cond.selects C y y).before args s = true)
    (hcode : (Cond.codeWith y bytes maxL ret hh).before args s = true) (hy : y.cls ≠ "java/lang/invoke/MethodHandle" ∧ y.cls ≠ "java/lang/invoke/VarHandle")
    {W9 : Nat} {Pre : Pt → Array Value → Prop} {Post : Pt → Array Value → Option Value → Pt → Prop} {PostX : Pt → Array Value → Addr → Pt → Prop} (hK : vx_Back l R p e below s args y 3 W9 Pre Post PostX)
    {b : Addr} {cellB : Cell} (hcell : T.heap[b]? = some cellB) (hobj : cellB.vm.isStatics = false) (hcls : s.vm.findClass C = some cellB.cls)
    {g : JFrame} (hg : g.method = m) (hsize : g.locals.size = c.maxLocals) {argsL rest : List Value} (hlen : ∀ sig, parseMethodDescriptor y.desc = some sig → argsL.length = sig.parameters.length)
    (hstack : g.stack = argsL.reverse ++ .ref b :: rest) (hW : 2 * g.monitorRoom + (rest.map fun v => v.category).sum ≤ W9) (hdg : decode c.code g.pc = .ok (.invokevirtual index, 3))
    (hpre : ∀ vm₁, s.WarmedH vm₁ → Pre ⟨T.setVm vm₁, locs, cells, slots⟩ (Value.ref b :: argsL).toArray) :
    (∃ (v : Option Value) (vm₁ : Vm) (B : Pt), s.WarmedH vm₁ ∧ Stand p l e R s m args below meth c B.U B.locs B.cells B.slots ∧ Post ⟨T.setVm vm₁, locs, cells, slots⟩ (Value.ref b :: argsL).toArray v B ∧
      ∀ target, Steps p.tables e below (B.U.setTop { g with pc := g.pc + 3, stack := v.toList ++ rest }) target → Steps p.tables e below (T.setTop g) target) ∨
    (∃ (q : Addr) (vm₁ : Vm) (B : Pt), s.WarmedH vm₁ ∧ Stand p l e R s m args below meth c B.U B.locs B.cells B.slots ∧ PostX ⟨T.setVm vm₁, locs, cells, slots⟩ (Value.ref b :: argsL).toArray q B ∧
      Steps p.tables e below (T.setTop g) ((B.U.setTop { g with stack := rest }).pushFrame (.throwing q))) := by
  obtain ⟨mk, methM, hnamed, hmethM, hstM, habM⟩ := Cond.instanceMethod_spec hinst
  obtain ⟨m8, methM', cM, hn8, hmethM', -, -, -, -, -, -, hsigM⟩ := Cond.codeWith_spec hcode
  cases Option.some.inj (hn8.symm.trans hnamed)
  cases hmethM.symm.trans hmethM'
  obtain ⟨c2, r2, m2, q1, q2, q3, q4, kP, hkP, hkPi⟩ := Cond.selects_spec hsel
  cases hcls.symm.trans q1
  cases (State.methodFound?_of_named hnamed hy).symm.trans q2
  cases hnamed.symm.trans q3
  have hselP : selectMethod e.platform s.vm cellB.cls mk = .method mk := by rw [Launch.admits_selectMethod X.admits]; exact q4
  obtain ⟨vm₁, X₁, hstep₁⟩ := X.invokevirtual hexec hown hlink hnamed hmethM hstM hkP hkPi hy (a := b) (cell := cellB) hcell
    (fun z h => by rw [h] at hobj; cases hobj) hselP hmethM habM hkP hkPi (g := g) hg (argsL := argsL) (rest := rest) (hlen _ hsigM) hstack hdg
  rcases hK m meth c ⟨T.setVm vm₁, locs, cells, slots⟩ { g with stack := rest } (.invokevirtual index) mk (Value.ref b :: argsL).toArray X₁ hg hsize hdg hW (X₁.named hnamed) (hpre vm₁ X₁.warmed) with ⟨v, B, X', hpost, hsteps⟩ | ⟨q, B, X', hpost, hsteps⟩
  · exact Or.inl ⟨v, vm₁, B, X₁.warmed, X', hpost, fun target h => hstep₁ _ fun acts => by rw [doInvoke_state]; exact hsteps.trans h⟩
  · exact Or.inr ⟨q, vm₁, B, X₁.warmed, X', hpost, hstep₁ _ fun acts => by rw [doInvoke_state]; exact hsteps⟩
theorem vx_callSX (X : Stand p l e R s m args below meth c T locs cells slots) (hexec : p.tables.exec = Jvm.exec) {own : String} {index : Nat} {y : MethodName} {bytes : ByteArray} {maxL : Nat} {ret : Option FieldType} {hh : List (Nat × Nat × Nat × Nat)}
    (hown : s.vm.findClass own = some m.cls) (hlink : (Cond.methodLink own index y).before args s = true) (hstat : (Cond.static y).before args s = true) (hinit : (Cond.initialized y.cls).before args s = true)
    (hcode : (Cond.codeWith y bytes maxL ret hh).before args s = true) (hy : y.cls ≠ "java/lang/invoke/MethodHandle" ∧ y.cls ≠ "java/lang/invoke/VarHandle")
    {W9 : Nat} {Pre : Pt → Array Value → Prop} {Post : Pt → Array Value → Option Value → Pt → Prop} {PostX : Pt → Array Value → Addr → Pt → Prop} (hK : vx_Back l R p e below s args y 3 W9 Pre Post PostX)
    {g : JFrame} (hg : g.method = m) (hsize : g.locals.size = c.maxLocals) {argsL rest : List Value} (hlen : ∀ sig, parseMethodDescriptor y.desc = some sig → argsL.length = sig.parameters.length)
    (hstack : g.stack = argsL.reverse ++ rest) (hW : 2 * g.monitorRoom + (rest.map fun v => v.category).sum ≤ W9) (hdg : decode c.code g.pc = .ok (.invokestatic index, 3))
    (hpre : ∀ vm₁, s.WarmedH vm₁ → Pre ⟨T.setVm vm₁, locs, cells, slots⟩ argsL.toArray) :
    (∃ (v : Option Value) (vm₁ : Vm) (B : Pt), s.WarmedH vm₁ ∧ Stand p l e R s m args below meth c B.U B.locs B.cells B.slots ∧ Post ⟨T.setVm vm₁, locs, cells, slots⟩ argsL.toArray v B ∧
      ∀ target, Steps p.tables e below (B.U.setTop { g with pc := g.pc + 3, stack := v.toList ++ rest }) target → Steps p.tables e below (T.setTop g) target) ∨
    (∃ (q : Addr) (vm₁ : Vm) (B : Pt), s.WarmedH vm₁ ∧ Stand p l e R s m args below meth c B.U B.locs B.cells B.slots ∧ PostX ⟨T.setVm vm₁, locs, cells, slots⟩ argsL.toArray q B ∧
      Steps p.tables e below (T.setTop g) ((B.U.setTop { g with stack := rest }).pushFrame (.throwing q))) := by
  obtain ⟨mk, methM, cM, hnamed, hmethM, -, -, -, -, -, -, hsigM⟩ := Cond.codeWith_spec hcode
  have hstatic : methM.isStatic = true := Cond.static_spec hnamed hmethM hstat
  obtain ⟨kP, hkP, -⟩ := className_of_methodNamed hnamed
  have hinitP : kP.init = .initialized := Cond.initialized_spec (findClass_of_methodNamed hnamed) hkP hinit
  obtain ⟨vm₁, X₁, hstep₁⟩ := X.invokestatic hexec hown hlink hnamed hmethM hstatic hkP hinitP hy (g := g) hg (argsL := argsL) (rest := rest) (hlen _ hsigM) hstack hdg
  rcases hK m meth c ⟨T.setVm vm₁, locs, cells, slots⟩ { g with stack := rest } (.invokestatic index) mk argsL.toArray X₁ hg hsize hdg hW (X₁.named hnamed) (hpre vm₁ X₁.warmed) with ⟨v, B, X', hpost, hsteps⟩ | ⟨q, B, X', hpost, hsteps⟩
  · exact Or.inl ⟨v, vm₁, B, X₁.warmed, X', hpost, fun target h => hstep₁ _ fun acts => by rw [doInvoke_state]; exact hsteps.trans h⟩
  · exact Or.inr ⟨q, vm₁, B, X₁.warmed, X', hpost, hstep₁ _ fun acts => by rw [doInvoke_state]; exact hsteps⟩
theorem vx_callVW (X : Stand p l e R s m args below meth c T locs cells slots) (hexec : p.tables.exec = Jvm.exec) {own C : String} {index : Nat} {y : MethodName} {bytes : ByteArray} {maxL : Nat} {ret : Option FieldType} {hh : List (Nat × Nat × Nat × Nat)}
    (hown : s.vm.findClass own = some m.cls) (hlink : (Cond.methodLink own index y).before args s = true) (hinst : (Cond.instanceMethod y).before args s = true) (hsel : (Cond.selects C y y).before args s = true)
    (hcode : (Cond.codeWith y bytes maxL ret hh).before args s = true) (hy : y.cls ≠ "java/lang/invoke/MethodHandle" ∧ y.cls ≠ "java/lang/invoke/VarHandle")
    {W9 : Nat} {Pre : Pt → Array Value → Prop} {Post : Pt → Array Value → Option Value → Pt → Prop} (hK : Back l R p e below s args y 3 W9 Pre Post)
    {b : Addr} {cellB : Cell} (hcell : T.heap[b]? = some cellB) (hobj : cellB.vm.isStatics = false) (hcls : s.vm.findClass C = some cellB.cls)
    {g : JFrame} (hg : g.method = m) (hsize : g.locals.size = c.maxLocals) {argsL rest : List Value} (hlen : ∀ sig, parseMethodDescriptor y.desc = some sig → argsL.length = sig.parameters.length)
    (hstack : g.stack = argsL.reverse ++ .ref b :: rest) (hW : 2 * g.monitorRoom + (rest.map fun v => v.category).sum ≤ W9) (hdg : decode c.code g.pc = .ok (.invokevirtual index, 3))
    (hpre : ∀ vm₁, s.WarmedH vm₁ → Pre ⟨T.setVm vm₁, locs, cells, slots⟩ (Value.ref b :: argsL).toArray) :
    ∃ (v : Option Value) (vm₁ : Vm) (B : Pt), s.WarmedH vm₁ ∧ Stand p l e R s m args below meth c B.U B.locs B.cells B.slots ∧ Post ⟨T.setVm vm₁, locs, cells, slots⟩ (Value.ref b :: argsL).toArray v B ∧
      ∀ target, Steps p.tables e below (B.U.setTop { g with pc := g.pc + 3, stack := v.toList ++ rest }) target → Steps p.tables e below (T.setTop g) target := by
  obtain ⟨mk, methM, hnamed, hmethM, hstM, habM⟩ := Cond.instanceMethod_spec hinst
  obtain ⟨m8, methM', cM, hn8, hmethM', -, -, -, -, -, -, hsigM⟩ := Cond.codeWith_spec hcode
  cases Option.some.inj (hn8.symm.trans hnamed)
  cases hmethM.symm.trans hmethM'
  obtain ⟨c2, r2, m2, q1, q2, q3, q4, kP, hkP, hkPi⟩ := Cond.selects_spec hsel
  cases hcls.symm.trans q1
  cases (State.methodFound?_of_named hnamed hy).symm.trans q2
  cases hnamed.symm.trans q3
  have hselP : selectMethod e.platform s.vm cellB.cls mk = .method mk := by rw [Launch.admits_selectMethod X.admits]; exact q4
  obtain ⟨vm₁, X₁, hstep₁⟩ := X.invokevirtual hexec hown hlink hnamed hmethM hstM hkP hkPi hy (a := b) (cell := cellB) hcell
    (fun z h => by rw [h] at hobj; cases hobj) hselP hmethM habM hkP hkPi (g := g) hg (argsL := argsL) (rest := rest) (hlen _ hsigM) hstack hdg
  obtain ⟨v, B, X', hpost, hsteps⟩ := hK m meth c ⟨T.setVm vm₁, locs, cells, slots⟩ { g with stack := rest } (.invokevirtual index) mk (Value.ref b :: argsL).toArray X₁ hg hsize hdg hW (X₁.named hnamed) (hpre vm₁ X₁.warmed)
  exact ⟨v, vm₁, B, X₁.warmed, X', hpost, fun target h => hstep₁ _ fun acts => by rw [doInvoke_state]; exact hsteps.trans h⟩
abbrev vx_CVW (R : Room) (s : State) (args : Array Value) (own C : String) (index : Nat) (y : MethodName) (bytes : ByteArray) (maxL : Nat) (ret : Option FieldType) (hh : List (Nat × Nat × Nat × Nat)) (ws : List Cond) (rm : Room) (mc ms n : Nat) : Prop :=
  (rm.cells = mc ∧ rm.slots = ms ∧ rm.frames + 1 ≤ R.frames ∧ 8 + (maxL + 11) + rm.locals ≤ R.locals ∧ (∀ w ∈ ws, ∀ (a' : Array Value) (U : State), s.WarmedH U.vm → w.before a' U = true) ∧ Cond.codeWith y bytes maxL ret hh ∈ ws) ∧
  (Cond.codeWith y bytes maxL ret hh).before args s = true ∧ (Cond.initialized y.cls).before args s = true ∧ (y.cls ≠ "java/lang/invoke/MethodHandle" ∧ y.cls ≠ "java/lang/invoke/VarHandle") ∧
  (∀ sig, parseMethodDescriptor y.desc = some sig → n = sig.parameters.length) ∧ (Cond.methodLink own index y).before args s = true ∧ (Cond.instanceMethod y).before args s = true ∧ (Cond.selects C y y).before args s = true
theorem vx_cwVW {own C : String} {index maxL mc ms : Nat} {y : MethodName} {bytes : ByteArray} {ret : Option FieldType} {hh : List (Nat × Nat × Nat × Nat)} {Ts ws ws' : List Cond} {rm : Room} (n : Nat) (ht : ∀ w ∈ Ts, w.before args s = true) (hT : GoodIn Ts (wsV own index C y ws)) (hw : ws = Cond.codeWith y bytes maxL ret hh :: ws') (hrc : rm.cells = mc) (hrs : rm.slots = ms)
    (hd : y.cls = C ∧ y.cls ≠ "java/lang/invoke/MethodHandle" ∧ y.cls ≠ "java/lang/invoke/VarHandle" ∧ (parseMethodDescriptor y.desc).map (fun d => d.parameters.length) = some n) (hR : rm.frames + 1 ≤ R.frames ∧ 8 + (maxL + 11) + rm.locals ≤ R.locals) :
    vx_CVW R s args own C index y bytes maxL ret hh ws rm mc ms n := by
  obtain ⟨hC, hd⟩ := hd
  subst hC
  have ok : ∀ w ∈ wsV own index y.cls y ws, w.before args s = true := fun w h => ht w (hT w h).1
  have hG : GoodIn Ts ws := fun w h => hT w (by unfold wsV; exact List.mem_append_right _ h)
  have hc : Cond.codeWith y bytes maxL ret hh ∈ ws := by rw [hw]; exact List.mem_cons_self
  refine ⟨⟨hrc, hrs, hR.1, hR.2, pay_in ht hG, hc⟩, ht _ (hG _ hc).1, ok _ (by simp [wsV]), ⟨hd.1, hd.2.1⟩, fun sig h => ?_, ok _ (by simp [wsV]), ok _ (by simp [wsV]), ok _ (by simp [wsV])⟩
  have h2 := hd.2.2
  rw [h] at h2
  exact (Option.some.inj h2).symm
theorem vx_runVW {y : MethodName} {bytes cc : ByteArray} {maxL nL mc ms n index : Nat} {ret : Option FieldType} {hh : List (Nat × Nat × Nat × Nat)} {ws : List Cond} {rm : Room} {Pc : Array Value → State → Prop} {Qc : Array Value → State → Outcome → State → Prop} {free : Addr → Prop} {Ts : List Cond} {own C : String} {b : Addr} {As rest : List Value} {g : JFrame}
    (S : CallFix p m c cc nL s args Ts own) (hM : Met l y ws rm Pc Qc mc ms free) (cw : vx_CVW R s args own C index y bytes maxL ret hh ws rm mc ms n) (hp : PreV s H C b Pc As)
    (hg : g.method = m) (hn : As.length = n) (hsize : g.locals.size = nL) (hstack : g.stack = As.reverse ++ .ref b :: rest) (hW : 2 * g.monitorRoom + (rest.map fun v => v.category).sum ≤ 8) (hdg : decode cc g.pc = .ok (.invokevirtual index, 3)) (hf : cells + mc ≤ R.cells ∧ slots + ms ≤ R.slots) :
    va_Run p l e R s m args below meth c H locs cells slots mc ms g rest (Qc (Value.ref b :: As).toArray) free := by
  obtain ⟨⟨hrc, hrs, hfr, hlo, hws, hcw⟩, hcode, hini, hy, hlen, hl, hin, hse⟩ := cw
  have hK : Back l R p e below s args y 3 8 (PreOf R mc ms Pc) (PostOf Qc mc ms free) := va_backW (hh := hh) (bytes := bytes) (maxL := maxL) (ret := ret) hM hp.1 hrc hrs hfr hlo hws hcw (fun a' U hW => word_at hW (Or.inl (by first | rfl | simp [Cond.onTables, Cond.keeps, Cond.steady])) hini)
  obtain ⟨hx, hb, hml, ho, -⟩ := S
  obtain ⟨-, ⟨cellB, hcB, hoB, hclB⟩, hPc⟩ := hp
  intro T hT X
  obtain ⟨v, vm₁, ⟨U', l2, c2, s2⟩, hW₁, X', ⟨g', mk, t, L, e1, e2, hq, h1, hL, h2, h3⟩, st⟩ := vx_callVW X hx (C := C) (hh := hh) (bytes := bytes) (maxL := maxL) (ret := ret) ho hl hin hse hcode hy hK (by rw [hT]; exact hcB) hoB hclB hg (hsize.trans hml.symm) (argsL := As) (rest := rest) (fun sig h => hn.trans (hlen sig h)) hstack hW (by rw [hb]; exact hdg)
    (fun vm₁ hW₁ => ⟨hf.1, hf.2, hPc (T.setVm vm₁) hT hW₁⟩)
  dsimp only [Pt.U, Pt.locs, Pt.cells, Pt.slots] at X' e1 e2 h1 h2 h3 st
  subst h1; subst h2; subst h3
  exact ⟨v, (T.setVm vm₁).calling g' mk (Value.ref b :: As).toArray, t, U', L, hT, X', hL, e1, e2, hq, st⟩
section
variable {y : MethodName} {bytes cc : ByteArray} {maxL nL mc ms n index : Nat} {ret : Option FieldType} {ws : List Cond} {rm : Room} {Pc : Array Value → State → Prop} {Qc : Array Value → State → Outcome → State → Prop} {XC : String → State → State → Prop} {free : Addr → Prop} {Ts : List Cond} {own C : String} {b : Addr} {As rest : List Value} {g : JFrame}
theorem vx_runVX {hh : List (Nat × Nat × Nat × Nat)} (S : CallFix p m c cc nL s args Ts own) (hM : vx_Met l y ws rm Pc Qc XC mc ms free) (cw : vx_CVW R s args own C index y bytes maxL ret hh ws rm mc ms n) (hp : PreV s H C b Pc As)
    (hg : g.method = m) (hn : As.length = n) (hsize : g.locals.size = nL) (hstack : g.stack = As.reverse ++ .ref b :: rest) (hW : 2 * g.monitorRoom + (rest.map fun v => v.category).sum ≤ 8) (hdg : decode cc g.pc = .ok (.invokevirtual index, 3)) (hf : cells + mc ≤ R.cells ∧ slots + ms ≤ R.slots) :
    vx_Run p l e R s m args below meth c H locs cells slots mc ms g rest (Qc (Value.ref b :: As).toArray) XC free := by
  obtain ⟨⟨hrc, hrs, hfr, hlo, hws, hcw⟩, hcode, hini, hy, hlen, hl, hin, hse⟩ := cw
  have hK : vx_Back l R p e below s args y 3 8 (PreOf R mc ms Pc) (PostOf Qc mc ms free) (vx_Post XC mc ms free) := vx_backW (hh := hh) (bytes := bytes) (maxL := maxL) (ret := ret) hM hp.1 hrc hrs hfr hlo hws hcw (fun a' U hW => word_at hW (Or.inl (by first | rfl | simp [Cond.onTables, Cond.keeps, Cond.steady])) hini)
  obtain ⟨hx, hb, hml, ho, -⟩ := S
  obtain ⟨-, ⟨cellB, hcB, hoB, hclB⟩, hPc⟩ := hp
  intro T hT X
  rcases vx_callVX X hx (C := C) (hh := hh) (bytes := bytes) (maxL := maxL) (ret := ret) ho hl hin hse hcode hy hK (by rw [hT]; exact hcB) hoB hclB hg (hsize.trans hml.symm) (argsL := As) (rest := rest) (fun sig h => hn.trans (hlen sig h)) hstack hW (by rw [hb]; exact hdg)
    (fun vm₁ hW₁ => ⟨hf.1, hf.2, hPc (T.setVm vm₁) hT hW₁⟩) with ⟨v, vm₁, ⟨U', l2, c2, s2⟩, hW₁, X', ⟨g', mk, t, L, e1, e2, hq, h1, hL, h2, h3⟩, st⟩ | ⟨q, vm₁, ⟨U', l2, c2, s2⟩, hW₁, X', ⟨g', mk, t, L, E, ce, e1, e2, hq, hce, hcv, hcl, h1, hL, h2, h3⟩, st⟩
  · dsimp only [Pt.U, Pt.locs, Pt.cells, Pt.slots] at X' e1 e2 h1 h2 h3 st
    subst h1; subst h2; subst h3
    exact Or.inl ⟨v, (T.setVm vm₁).calling g' mk (Value.ref b :: As).toArray, t, U', L, hT, X', hL, e1, e2, hq, st⟩
  · dsimp only [Pt.U, Pt.locs, Pt.cells, Pt.slots] at X' e1 e2 h1 h2 h3 st hcl
    subst h1; subst h2; subst h3
    exact Or.inr ⟨q, (T.setVm vm₁).calling g' mk (Value.ref b :: As).toArray, t, U', L, E, ce, hT, X', hL, e1, e2, hq, hce, hcv, vx_cls hW₁ hcl, st⟩
theorem vx_runSX {hh : List (Nat × Nat × Nat × Nat)} (S : CallFix p m c cc nL s args Ts own) (hM : vx_Met l y ws rm Pc Qc XC mc ms free) (cw : vx_CSW R s args own index y bytes maxL ret hh ws rm mc ms n) (hp : PreS s H Pc As)
    (hg : g.method = m) (hn : As.length = n) (hsize : g.locals.size = nL) (hstack : g.stack = As.reverse ++ rest) (hW : 2 * g.monitorRoom + (rest.map fun v => v.category).sum ≤ 8) (hdg : decode cc g.pc = .ok (.invokestatic index, 3)) (hf : cells + mc ≤ R.cells ∧ slots + ms ≤ R.slots) :
    vx_Run p l e R s m args below meth c H locs cells slots mc ms g rest (Qc As.toArray) XC free := by
  obtain ⟨⟨hrc, hrs, hfr, hlo, hws, hcw⟩, hcode, hini, hy, hlen, hl, hstt⟩ := cw
  have hK : vx_Back l R p e below s args y 3 8 (PreOf R mc ms Pc) (PostOf Qc mc ms free) (vx_Post XC mc ms free) := vx_backW (hh := hh) (bytes := bytes) (maxL := maxL) (ret := ret) hM hp.1 hrc hrs hfr hlo hws hcw (fun a' U hW => word_at hW (Or.inl (by first | rfl | simp [Cond.onTables, Cond.keeps, Cond.steady])) hini)
  obtain ⟨hx, hb, hml, ho, -⟩ := S
  intro T hT X
  rcases vx_callSX X hx (hh := hh) (bytes := bytes) (maxL := maxL) (ret := ret) ho hl hstt hini hcode hy hK hg (hsize.trans hml.symm) (argsL := As) (rest := rest) (fun sig h => hn.trans (hlen sig h)) hstack hW (by rw [hb]; exact hdg)
    (fun vm₁ hW₁ => ⟨hf.1, hf.2, hp.2 (T.setVm vm₁) hT hW₁⟩) with ⟨v, vm₁, ⟨U', l2, c2, s2⟩, hW₁, X', ⟨g', mk, t, L, e1, e2, hq, h1, hL, h2, h3⟩, st⟩ | ⟨q, vm₁, ⟨U', l2, c2, s2⟩, hW₁, X', ⟨g', mk, t, L, E, ce, e1, e2, hq, hce, hcv, hcl, h1, hL, h2, h3⟩, st⟩
  · dsimp only [Pt.U, Pt.locs, Pt.cells, Pt.slots] at X' e1 e2 h1 h2 h3 st
    subst h1; subst h2; subst h3
    exact Or.inl ⟨v, (T.setVm vm₁).calling g' mk As.toArray, t, U', L, hT, X', hL, e1, e2, hq, st⟩
  · dsimp only [Pt.U, Pt.locs, Pt.cells, Pt.slots] at X' e1 e2 h1 h2 h3 st hcl
    subst h1; subst h2; subst h3
    exact Or.inr ⟨q, (T.setVm vm₁).calling g' mk As.toArray, t, U', L, E, ce, hT, X', hL, e1, e2, hq, hce, hcv, vx_cls hW₁ hcl, st⟩
end
end VXH
theorem vx_ofWH {l : Launch} {y : MethodName} {ws ws' : List Cond} {rm : Room} {Pc : Array Value → State → Prop} {Qc : Array Value → State → Outcome → State → Prop} {XC : String → State → State → Prop} {mc ms : Nat} {free : Addr → Prop} {cc : ByteArray} {maxL : Nat} {ret : Option FieldType} {hh : List (Nat × Nat × Nat × Nat)}
    (hy : plainName y.cls = true) (hw : ws = Cond.codeWith y cc maxL ret hh :: ws')
    (body : ∀ p e s m args below meth c s₁, BodyLoose p l y (headSpec ws rm) cc maxL ret e s m args below meth c s₁ → c.maxLocals = maxL → Pc args s →
      W p l e (headSpec ws rm).room s m args below meth c s.heap [] 0 0 (vx_MQ below Qc XC args s mc ms free) (entryFrame m args maxL)) : vx_Met l y ws rm Pc Qc XC mc ms free := by
  refine MetFree.of_bodyS (code := cc) (maxLocals := maxL) (ret := ret) hy ?_ ?_
  · intro args s m h hn
    obtain ⟨m9, meth, c, hn9, h1, h2, h3, h4, -, h5, h6, -⟩ := Cond.codeWith_spec (atoms_spec (ws := ws) h _ (by rw [hw]; exact List.mem_cons_self))
    cases hn.symm.trans hn9
    exact ⟨meth, c, h1, h2, h3, h4, h5, h6⟩
  · intro p e s m args below meth c s₁ B hml hP _
    have hh0 : s₁.heap = s.heap := by rw [B.state]; rfl
    obtain ⟨t, a1, o, b1, b2, b3⟩ := body p e s m args below meth c s₁ B hml hP s₁ hh0 (Stand.of_body B)
    exact ⟨t, o, a1, b1, b2, b3⟩
/-! ===== END ===== -/
end
section
-- pasted: PART A of the skeleton
-- ===== PART A: goes FIRST, ahead of the names: the tables' words, and 'selects' of the private methods out of them =====
/-- a private method of a class that the tables say can be made, by its rows of tables_1 -/
def lw_okq (q : MethodName × Nat) : Prop := (q.1.cls ≠ "java/lang/invoke/MethodHandle" ∧ q.1.cls ≠ "java/lang/invoke/VarHandle") ∧ Cond.instantiable q.1.cls q.2 ∈ tables_1 ∧ Cond.privateMethod q.1 ∈ tables_1 ∧ Cond.instanceMethod q.1 ∈ tables_1
theorem lw_p0 : lw_okq (⟨"WordTongue$Scanner", "know", "(Ljava/lang/String;)V"⟩, 11) := ⟨⟨by decide +kernel, by decide +kernel⟩, List.mem_of_getElem? (i := 127) (by decide +kernel), List.mem_of_getElem? (i := 137) (by decide +kernel), List.mem_of_getElem? (i := 138) (by decide +kernel)⟩
theorem lw_p1 : lw_okq (⟨"WordTongue$Scanner", "idOf", "(LWordTongue$Ints;II)I"⟩, 11) := ⟨⟨by decide +kernel, by decide +kernel⟩, List.mem_of_getElem? (i := 127) (by decide +kernel), List.mem_of_getElem? (i := 193) (by decide +kernel), List.mem_of_getElem? (i := 194) (by decide +kernel)⟩
theorem lw_p2 : lw_okq (⟨"WordTongue$Scanner", "isAlike", "(ILWordTongue$Ints;II)Z"⟩, 11) := ⟨⟨by decide +kernel, by decide +kernel⟩, List.mem_of_getElem? (i := 127) (by decide +kernel), List.mem_of_getElem? (i := 201) (by decide +kernel), List.mem_of_getElem? (i := 202) (by decide +kernel)⟩
theorem lw_p3 : lw_okq (⟨"WordTongue", "addBytes", "(I)V"⟩, 10) := ⟨⟨by decide +kernel, by decide +kernel⟩, List.mem_of_getElem? (i := 28) (by decide +kernel), List.mem_of_getElem? (i := 599) (by decide +kernel), List.mem_of_getElem? (i := 600) (by decide +kernel)⟩
theorem lw_p4 : lw_okq (⟨"WordTongue$Scanner", "pass", "()V"⟩, 11) := ⟨⟨by decide +kernel, by decide +kernel⟩, List.mem_of_getElem? (i := 127) (by decide +kernel), List.mem_of_getElem? (i := 628) (by decide +kernel), List.mem_of_getElem? (i := 629) (by decide +kernel)⟩
theorem lw_p5 : lw_okq (⟨"WordTongue$Scanner", "skipLine", "()V"⟩, 11) := ⟨⟨by decide +kernel, by decide +kernel⟩, List.mem_of_getElem? (i := 127) (by decide +kernel), List.mem_of_getElem? (i := 632) (by decide +kernel), List.mem_of_getElem? (i := 633) (by decide +kernel)⟩
theorem lw_p6 : lw_okq (⟨"WordTongue$Scanner", "put", "(III)V"⟩, 11) := ⟨⟨by decide +kernel, by decide +kernel⟩, List.mem_of_getElem? (i := 127) (by decide +kernel), List.mem_of_getElem? (i := 636) (by decide +kernel), List.mem_of_getElem? (i := 637) (by decide +kernel)⟩
theorem lw_p7 : lw_okq (⟨"WordTongue$Scanner", "token", "()V"⟩, 11) := ⟨⟨by decide +kernel, by decide +kernel⟩, List.mem_of_getElem? (i := 127) (by decide +kernel), List.mem_of_getElem? (i := 651) (by decide +kernel), List.mem_of_getElem? (i := 652) (by decide +kernel)⟩
theorem lw_p8 : lw_okq (⟨"WordTongue$Scanner", "name", "(I)V"⟩, 11) := ⟨⟨by decide +kernel, by decide +kernel⟩, List.mem_of_getElem? (i := 127) (by decide +kernel), List.mem_of_getElem? (i := 658) (by decide +kernel), List.mem_of_getElem? (i := 659) (by decide +kernel)⟩
theorem lw_p9 : lw_okq (⟨"WordTongue$Scanner", "restEnd", "(I)I"⟩, 11) := ⟨⟨by decide +kernel, by decide +kernel⟩, List.mem_of_getElem? (i := 127) (by decide +kernel), List.mem_of_getElem? (i := 662) (by decide +kernel), List.mem_of_getElem? (i := 663) (by decide +kernel)⟩
theorem lw_p10 : lw_okq (⟨"WordTongue$Scanner", "number", "(III)V"⟩, 11) := ⟨⟨by decide +kernel, by decide +kernel⟩, List.mem_of_getElem? (i := 127) (by decide +kernel), List.mem_of_getElem? (i := 672) (by decide +kernel), List.mem_of_getElem? (i := 673) (by decide +kernel)⟩
theorem lw_p11 : lw_okq (⟨"WordTongue$Scanner", "quoted", "(I)I"⟩, 11) := ⟨⟨by decide +kernel, by decide +kernel⟩, List.mem_of_getElem? (i := 127) (by decide +kernel), List.mem_of_getElem? (i := 684) (by decide +kernel), List.mem_of_getElem? (i := 685) (by decide +kernel)⟩
theorem lw_p12 : lw_okq (⟨"WordTongue$Scanner", "string", "(I)V"⟩, 11) := ⟨⟨by decide +kernel, by decide +kernel⟩, List.mem_of_getElem? (i := 127) (by decide +kernel), List.mem_of_getElem? (i := 688) (by decide +kernel), List.mem_of_getElem? (i := 689) (by decide +kernel)⟩
theorem lw_p13 : lw_okq (⟨"WordTongue$Scanner", "section", "(I)V"⟩, 11) := ⟨⟨by decide +kernel, by decide +kernel⟩, List.mem_of_getElem? (i := 127) (by decide +kernel), List.mem_of_getElem? (i := 696) (by decide +kernel), List.mem_of_getElem? (i := 697) (by decide +kernel)⟩
theorem lw_p14 : lw_okq (⟨"WordTongue$Scanner", "sign", "(II)V"⟩, 11) := ⟨⟨by decide +kernel, by decide +kernel⟩, List.mem_of_getElem? (i := 127) (by decide +kernel), List.mem_of_getElem? (i := 700) (by decide +kernel), List.mem_of_getElem? (i := 701) (by decide +kernel)⟩
theorem lw_p15 : lw_okq (⟨"WordTongue$Parser", "text", "()I"⟩, 12) := ⟨⟨by decide +kernel, by decide +kernel⟩, List.mem_of_getElem? (i := 271) (by decide +kernel), List.mem_of_getElem? (i := 727) (by decide +kernel), List.mem_of_getElem? (i := 728) (by decide +kernel)⟩
def lw_privs_1 : List (MethodName × Nat) := [(⟨"WordTongue$Scanner", "know", "(Ljava/lang/String;)V"⟩, 11), (⟨"WordTongue$Scanner", "idOf", "(LWordTongue$Ints;II)I"⟩, 11), (⟨"WordTongue$Scanner", "isAlike", "(ILWordTongue$Ints;II)Z"⟩, 11), (⟨"WordTongue", "addBytes", "(I)V"⟩, 10), (⟨"WordTongue$Scanner", "pass", "()V"⟩, 11), (⟨"WordTongue$Scanner", "skipLine", "()V"⟩, 11), (⟨"WordTongue$Scanner", "put", "(III)V"⟩, 11), (⟨"WordTongue$Scanner", "token", "()V"⟩, 11), (⟨"WordTongue$Scanner", "name", "(I)V"⟩, 11), (⟨"WordTongue$Scanner", "restEnd", "(I)I"⟩, 11), (⟨"WordTongue$Scanner", "number", "(III)V"⟩, 11), (⟨"WordTongue$Scanner", "quoted", "(I)I"⟩, 11), (⟨"WordTongue$Scanner", "string", "(I)V"⟩, 11), (⟨"WordTongue$Scanner", "section", "(I)V"⟩, 11), (⟨"WordTongue$Scanner", "sign", "(II)V"⟩, 11), (⟨"WordTongue$Parser", "text", "()I"⟩, 12)]
theorem lw_r1 : ∀ q ∈ lw_privs_1, lw_okq q := List.forall_mem_cons.mpr ⟨lw_p0, List.forall_mem_cons.mpr ⟨lw_p1, List.forall_mem_cons.mpr ⟨lw_p2, List.forall_mem_cons.mpr ⟨lw_p3, List.forall_mem_cons.mpr ⟨lw_p4, List.forall_mem_cons.mpr ⟨lw_p5, List.forall_mem_cons.mpr ⟨lw_p6, List.forall_mem_cons.mpr ⟨lw_p7, List.forall_mem_cons.mpr ⟨lw_p8, List.forall_mem_cons.mpr ⟨lw_p9, List.forall_mem_cons.mpr ⟨lw_p10, List.forall_mem_cons.mpr ⟨lw_p11, List.forall_mem_cons.mpr ⟨lw_p12, List.forall_mem_cons.mpr ⟨lw_p13, List.forall_mem_cons.mpr ⟨lw_p14, List.forall_mem_cons.mpr ⟨lw_p15, fun _ h => absurd h List.not_mem_nil⟩⟩⟩⟩⟩⟩⟩⟩⟩⟩⟩⟩⟩⟩⟩⟩
theorem lw_p16 : lw_okq (⟨"WordTongue$Parser", "place", "()I"⟩, 12) := ⟨⟨by decide +kernel, by decide +kernel⟩, List.mem_of_getElem? (i := 271) (by decide +kernel), List.mem_of_getElem? (i := 731) (by decide +kernel), List.mem_of_getElem? (i := 732) (by decide +kernel)⟩
theorem lw_p17 : lw_okq (⟨"WordTongue$Parser", "declaration", "(Z)I"⟩, 12) := ⟨⟨by decide +kernel, by decide +kernel⟩, List.mem_of_getElem? (i := 271) (by decide +kernel), List.mem_of_getElem? (i := 737) (by decide +kernel), List.mem_of_getElem? (i := 738) (by decide +kernel)⟩
theorem lw_p18 : lw_okq (⟨"WordTongue$Parser", "kind", "()I"⟩, 12) := ⟨⟨by decide +kernel, by decide +kernel⟩, List.mem_of_getElem? (i := 271) (by decide +kernel), List.mem_of_getElem? (i := 741) (by decide +kernel), List.mem_of_getElem? (i := 742) (by decide +kernel)⟩
theorem lw_p19 : lw_okq (⟨"WordTongue$Parser", "definitions", "(Z)I"⟩, 12) := ⟨⟨by decide +kernel, by decide +kernel⟩, List.mem_of_getElem? (i := 271) (by decide +kernel), List.mem_of_getElem? (i := 745) (by decide +kernel), List.mem_of_getElem? (i := 746) (by decide +kernel)⟩
theorem lw_p20 : lw_okq (⟨"WordTongue$Parser", "leaf", "(I)I"⟩, 12) := ⟨⟨by decide +kernel, by decide +kernel⟩, List.mem_of_getElem? (i := 271) (by decide +kernel), List.mem_of_getElem? (i := 749) (by decide +kernel), List.mem_of_getElem? (i := 750) (by decide +kernel)⟩
theorem lw_p21 : lw_okq (⟨"WordTongue$Parser", "info", "()I"⟩, 12) := ⟨⟨by decide +kernel, by decide +kernel⟩, List.mem_of_getElem? (i := 271) (by decide +kernel), List.mem_of_getElem? (i := 753) (by decide +kernel), List.mem_of_getElem? (i := 754) (by decide +kernel)⟩
theorem lw_p22 : lw_okq (⟨"WordTongue$Parser", "advance", "()V"⟩, 12) := ⟨⟨by decide +kernel, by decide +kernel⟩, List.mem_of_getElem? (i := 271) (by decide +kernel), List.mem_of_getElem? (i := 757) (by decide +kernel), List.mem_of_getElem? (i := 758) (by decide +kernel)⟩
theorem lw_p23 : lw_okq (⟨"WordTongue$Parser", "open", "()V"⟩, 12) := ⟨⟨by decide +kernel, by decide +kernel⟩, List.mem_of_getElem? (i := 271) (by decide +kernel), List.mem_of_getElem? (i := 761) (by decide +kernel), List.mem_of_getElem? (i := 762) (by decide +kernel)⟩
theorem lw_p24 : lw_okq (⟨"WordTongue$Parser", "refuse", "()V"⟩, 12) := ⟨⟨by decide +kernel, by decide +kernel⟩, List.mem_of_getElem? (i := 271) (by decide +kernel), List.mem_of_getElem? (i := 765) (by decide +kernel), List.mem_of_getElem? (i := 766) (by decide +kernel)⟩
theorem lw_p25 : lw_okq (⟨"java/lang/Throwable", "fillInStackTrace", "(I)Ljava/lang/Throwable;"⟩, 6) := ⟨⟨by decide +kernel, by decide +kernel⟩, List.mem_of_getElem? (i := 809) (by decide +kernel), List.mem_of_getElem? (i := 807) (by decide +kernel), List.mem_of_getElem? (i := 808) (by decide +kernel)⟩
theorem lw_p26 : lw_okq (⟨"WordTongue$Parser", "enter", "()V"⟩, 12) := ⟨⟨by decide +kernel, by decide +kernel⟩, List.mem_of_getElem? (i := 271) (by decide +kernel), List.mem_of_getElem? (i := 838) (by decide +kernel), List.mem_of_getElem? (i := 839) (by decide +kernel)⟩
theorem lw_p27 : lw_okq (⟨"WordTongue$Parser", "nameDue", "()I"⟩, 12) := ⟨⟨by decide +kernel, by decide +kernel⟩, List.mem_of_getElem? (i := 271) (by decide +kernel), List.mem_of_getElem? (i := 843) (by decide +kernel), List.mem_of_getElem? (i := 844) (by decide +kernel)⟩
theorem lw_p28 : lw_okq (⟨"WordTongue$Parser", "due", "(I)V"⟩, 12) := ⟨⟨by decide +kernel, by decide +kernel⟩, List.mem_of_getElem? (i := 271) (by decide +kernel), List.mem_of_getElem? (i := 847) (by decide +kernel), List.mem_of_getElem? (i := 848) (by decide +kernel)⟩
theorem lw_p29 : lw_okq (⟨"WordTongue$Parser", "expression", "()I"⟩, 12) := ⟨⟨by decide +kernel, by decide +kernel⟩, List.mem_of_getElem? (i := 271) (by decide +kernel), List.mem_of_getElem? (i := 865) (by decide +kernel), List.mem_of_getElem? (i := 866) (by decide +kernel)⟩
theorem lw_p30 : lw_okq (⟨"WordTongue$Parser", "operand", "(I)V"⟩, 12) := ⟨⟨by decide +kernel, by decide +kernel⟩, List.mem_of_getElem? (i := 271) (by decide +kernel), List.mem_of_getElem? (i := 870) (by decide +kernel), List.mem_of_getElem? (i := 871) (by decide +kernel)⟩
theorem lw_p31 : lw_okq (⟨"WordTongue$Parser", "passSigns", "(Z)V"⟩, 12) := ⟨⟨by decide +kernel, by decide +kernel⟩, List.mem_of_getElem? (i := 271) (by decide +kernel), List.mem_of_getElem? (i := 874) (by decide +kernel), List.mem_of_getElem? (i := 875) (by decide +kernel)⟩
def lw_privs_2 : List (MethodName × Nat) := [(⟨"WordTongue$Parser", "place", "()I"⟩, 12), (⟨"WordTongue$Parser", "declaration", "(Z)I"⟩, 12), (⟨"WordTongue$Parser", "kind", "()I"⟩, 12), (⟨"WordTongue$Parser", "definitions", "(Z)I"⟩, 12), (⟨"WordTongue$Parser", "leaf", "(I)I"⟩, 12), (⟨"WordTongue$Parser", "info", "()I"⟩, 12), (⟨"WordTongue$Parser", "advance", "()V"⟩, 12), (⟨"WordTongue$Parser", "open", "()V"⟩, 12), (⟨"WordTongue$Parser", "refuse", "()V"⟩, 12), (⟨"java/lang/Throwable", "fillInStackTrace", "(I)Ljava/lang/Throwable;"⟩, 6), (⟨"WordTongue$Parser", "enter", "()V"⟩, 12), (⟨"WordTongue$Parser", "nameDue", "()I"⟩, 12), (⟨"WordTongue$Parser", "due", "(I)V"⟩, 12), (⟨"WordTongue$Parser", "expression", "()I"⟩, 12), (⟨"WordTongue$Parser", "operand", "(I)V"⟩, 12), (⟨"WordTongue$Parser", "passSigns", "(Z)V"⟩, 12)]
theorem lw_r2 : ∀ q ∈ lw_privs_2, lw_okq q := List.forall_mem_cons.mpr ⟨lw_p16, List.forall_mem_cons.mpr ⟨lw_p17, List.forall_mem_cons.mpr ⟨lw_p18, List.forall_mem_cons.mpr ⟨lw_p19, List.forall_mem_cons.mpr ⟨lw_p20, List.forall_mem_cons.mpr ⟨lw_p21, List.forall_mem_cons.mpr ⟨lw_p22, List.forall_mem_cons.mpr ⟨lw_p23, List.forall_mem_cons.mpr ⟨lw_p24, List.forall_mem_cons.mpr ⟨lw_p25, List.forall_mem_cons.mpr ⟨lw_p26, List.forall_mem_cons.mpr ⟨lw_p27, List.forall_mem_cons.mpr ⟨lw_p28, List.forall_mem_cons.mpr ⟨lw_p29, List.forall_mem_cons.mpr ⟨lw_p30, List.forall_mem_cons.mpr ⟨lw_p31, fun _ h => absurd h List.not_mem_nil⟩⟩⟩⟩⟩⟩⟩⟩⟩⟩⟩⟩⟩⟩⟩⟩
theorem lw_p32 : lw_okq (⟨"WordTongue$Parser", "command", "()I"⟩, 12) := ⟨⟨by decide +kernel, by decide +kernel⟩, List.mem_of_getElem? (i := 271) (by decide +kernel), List.mem_of_getElem? (i := 878) (by decide +kernel), List.mem_of_getElem? (i := 879) (by decide +kernel)⟩
theorem lw_p33 : lw_okq (⟨"WordTongue$Parser", "section", "(Z)I"⟩, 12) := ⟨⟨by decide +kernel, by decide +kernel⟩, List.mem_of_getElem? (i := 271) (by decide +kernel), List.mem_of_getElem? (i := 882) (by decide +kernel), List.mem_of_getElem? (i := 883) (by decide +kernel)⟩
theorem lw_p34 : lw_okq (⟨"WordTongue$Parser", "cases", "(I)V"⟩, 12) := ⟨⟨by decide +kernel, by decide +kernel⟩, List.mem_of_getElem? (i := 271) (by decide +kernel), List.mem_of_getElem? (i := 890) (by decide +kernel), List.mem_of_getElem? (i := 891) (by decide +kernel)⟩
theorem lw_p35 : lw_okq (⟨"WordTongue$Parser", "labels", "(I)V"⟩, 12) := ⟨⟨by decide +kernel, by decide +kernel⟩, List.mem_of_getElem? (i := 271) (by decide +kernel), List.mem_of_getElem? (i := 894) (by decide +kernel), List.mem_of_getElem? (i := 895) (by decide +kernel)⟩
theorem lw_p36 : lw_okq (⟨"WordTongue$Parser", "close", "()V"⟩, 12) := ⟨⟨by decide +kernel, by decide +kernel⟩, List.mem_of_getElem? (i := 271) (by decide +kernel), List.mem_of_getElem? (i := 898) (by decide +kernel), List.mem_of_getElem? (i := 899) (by decide +kernel)⟩
theorem lw_p37 : lw_okq (⟨"WordTongue$Parser", "isOpen", "(I)Z"⟩, 12) := ⟨⟨by decide +kernel, by decide +kernel⟩, List.mem_of_getElem? (i := 271) (by decide +kernel), List.mem_of_getElem? (i := 906) (by decide +kernel), List.mem_of_getElem? (i := 907) (by decide +kernel)⟩
theorem lw_p38 : lw_okq (⟨"WordTongue$Parser", "conditional", "()I"⟩, 12) := ⟨⟨by decide +kernel, by decide +kernel⟩, List.mem_of_getElem? (i := 271) (by decide +kernel), List.mem_of_getElem? (i := 910) (by decide +kernel), List.mem_of_getElem? (i := 911) (by decide +kernel)⟩
theorem lw_p39 : lw_okq (⟨"WordTongue$Parser", "passDo", "()V"⟩, 12) := ⟨⟨by decide +kernel, by decide +kernel⟩, List.mem_of_getElem? (i := 271) (by decide +kernel), List.mem_of_getElem? (i := 914) (by decide +kernel), List.mem_of_getElem? (i := 915) (by decide +kernel)⟩
theorem lw_p40 : lw_okq (⟨"WordTongue$Parser", "counting", "()I"⟩, 12) := ⟨⟨by decide +kernel, by decide +kernel⟩, List.mem_of_getElem? (i := 271) (by decide +kernel), List.mem_of_getElem? (i := 922) (by decide +kernel), List.mem_of_getElem? (i := 923) (by decide +kernel)⟩
theorem lw_p41 : lw_okq (⟨"WordTongue$Parser", "switching", "()I"⟩, 12) := ⟨⟨by decide +kernel, by decide +kernel⟩, List.mem_of_getElem? (i := 271) (by decide +kernel), List.mem_of_getElem? (i := 930) (by decide +kernel), List.mem_of_getElem? (i := 931) (by decide +kernel)⟩
theorem lw_p42 : lw_okq (⟨"WordTongue$Parser", "assignment", "()I"⟩, 12) := ⟨⟨by decide +kernel, by decide +kernel⟩, List.mem_of_getElem? (i := 271) (by decide +kernel), List.mem_of_getElem? (i := 934) (by decide +kernel), List.mem_of_getElem? (i := 935) (by decide +kernel)⟩
theorem lw_p43 : lw_okq (⟨"WordTongue$Parser", "isCall", "(I)Z"⟩, 12) := ⟨⟨by decide +kernel, by decide +kernel⟩, List.mem_of_getElem? (i := 271) (by decide +kernel), List.mem_of_getElem? (i := 942) (by decide +kernel), List.mem_of_getElem? (i := 943) (by decide +kernel)⟩
theorem lw_p44 : lw_okq (⟨"WordTongue$Parser", "repeats", "(I)I"⟩, 12) := ⟨⟨by decide +kernel, by decide +kernel⟩, List.mem_of_getElem? (i := 271) (by decide +kernel), List.mem_of_getElem? (i := 957) (by decide +kernel), List.mem_of_getElem? (i := 958) (by decide +kernel)⟩
theorem lw_p45 : lw_okq (⟨"WordTongue$Parser", "primary", "()I"⟩, 12) := ⟨⟨by decide +kernel, by decide +kernel⟩, List.mem_of_getElem? (i := 271) (by decide +kernel), List.mem_of_getElem? (i := 965) (by decide +kernel), List.mem_of_getElem? (i := 966) (by decide +kernel)⟩
theorem lw_p46 : lw_okq (⟨"WordTongue$Parser", "pack", "(I)I"⟩, 12) := ⟨⟨by decide +kernel, by decide +kernel⟩, List.mem_of_getElem? (i := 271) (by decide +kernel), List.mem_of_getElem? (i := 969) (by decide +kernel), List.mem_of_getElem? (i := 970) (by decide +kernel)⟩
theorem lw_p47 : lw_okq (⟨"WordTongue$Parser", "table", "()I"⟩, 12) := ⟨⟨by decide +kernel, by decide +kernel⟩, List.mem_of_getElem? (i := 271) (by decide +kernel), List.mem_of_getElem? (i := 977) (by decide +kernel), List.mem_of_getElem? (i := 978) (by decide +kernel)⟩
def lw_privs_3 : List (MethodName × Nat) := [(⟨"WordTongue$Parser", "command", "()I"⟩, 12), (⟨"WordTongue$Parser", "section", "(Z)I"⟩, 12), (⟨"WordTongue$Parser", "cases", "(I)V"⟩, 12), (⟨"WordTongue$Parser", "labels", "(I)V"⟩, 12), (⟨"WordTongue$Parser", "close", "()V"⟩, 12), (⟨"WordTongue$Parser", "isOpen", "(I)Z"⟩, 12), (⟨"WordTongue$Parser", "conditional", "()I"⟩, 12), (⟨"WordTongue$Parser", "passDo", "()V"⟩, 12), (⟨"WordTongue$Parser", "counting", "()I"⟩, 12), (⟨"WordTongue$Parser", "switching", "()I"⟩, 12), (⟨"WordTongue$Parser", "assignment", "()I"⟩, 12), (⟨"WordTongue$Parser", "isCall", "(I)Z"⟩, 12), (⟨"WordTongue$Parser", "repeats", "(I)I"⟩, 12), (⟨"WordTongue$Parser", "primary", "()I"⟩, 12), (⟨"WordTongue$Parser", "pack", "(I)I"⟩, 12), (⟨"WordTongue$Parser", "table", "()I"⟩, 12)]
theorem lw_r3 : ∀ q ∈ lw_privs_3, lw_okq q := List.forall_mem_cons.mpr ⟨lw_p32, List.forall_mem_cons.mpr ⟨lw_p33, List.forall_mem_cons.mpr ⟨lw_p34, List.forall_mem_cons.mpr ⟨lw_p35, List.forall_mem_cons.mpr ⟨lw_p36, List.forall_mem_cons.mpr ⟨lw_p37, List.forall_mem_cons.mpr ⟨lw_p38, List.forall_mem_cons.mpr ⟨lw_p39, List.forall_mem_cons.mpr ⟨lw_p40, List.forall_mem_cons.mpr ⟨lw_p41, List.forall_mem_cons.mpr ⟨lw_p42, List.forall_mem_cons.mpr ⟨lw_p43, List.forall_mem_cons.mpr ⟨lw_p44, List.forall_mem_cons.mpr ⟨lw_p45, List.forall_mem_cons.mpr ⟨lw_p46, List.forall_mem_cons.mpr ⟨lw_p47, fun _ h => absurd h List.not_mem_nil⟩⟩⟩⟩⟩⟩⟩⟩⟩⟩⟩⟩⟩⟩⟩⟩
theorem lw_p48 : lw_okq (⟨"WordTongue$Parser", "calls", "(I)I"⟩, 12) := ⟨⟨by decide +kernel, by decide +kernel⟩, List.mem_of_getElem? (i := 271) (by decide +kernel), List.mem_of_getElem? (i := 981) (by decide +kernel), List.mem_of_getElem? (i := 982) (by decide +kernel)⟩
theorem lw_p49 : lw_okq (⟨"WordTongue$Parser", "hangSigns", "(II)V"⟩, 12) := ⟨⟨by decide +kernel, by decide +kernel⟩, List.mem_of_getElem? (i := 271) (by decide +kernel), List.mem_of_getElem? (i := 985) (by decide +kernel), List.mem_of_getElem? (i := 986) (by decide +kernel)⟩
theorem lw_p50 : lw_okq (⟨"WordTongue$Parser", "settle", "(III)V"⟩, 12) := ⟨⟨by decide +kernel, by decide +kernel⟩, List.mem_of_getElem? (i := 271) (by decide +kernel), List.mem_of_getElem? (i := 990) (by decide +kernel), List.mem_of_getElem? (i := 991) (by decide +kernel)⟩
theorem lw_p51 : lw_okq (⟨"WordTongue$Parser", "variables", "(I)V"⟩, 12) := ⟨⟨by decide +kernel, by decide +kernel⟩, List.mem_of_getElem? (i := 271) (by decide +kernel), List.mem_of_getElem? (i := 1001) (by decide +kernel), List.mem_of_getElem? (i := 1002) (by decide +kernel)⟩
theorem lw_p52 : lw_okq (⟨"WordTongue$Parser", "routine", "(Z)I"⟩, 12) := ⟨⟨by decide +kernel, by decide +kernel⟩, List.mem_of_getElem? (i := 271) (by decide +kernel), List.mem_of_getElem? (i := 1005) (by decide +kernel), List.mem_of_getElem? (i := 1006) (by decide +kernel)⟩
theorem lw_p53 : lw_okq (⟨"WordTongue$Parser", "isGlobal", "(I)Z"⟩, 12) := ⟨⟨by decide +kernel, by decide +kernel⟩, List.mem_of_getElem? (i := 271) (by decide +kernel), List.mem_of_getElem? (i := 1009) (by decide +kernel), List.mem_of_getElem? (i := 1010) (by decide +kernel)⟩
theorem lw_p54 : lw_okq (⟨"WordTongue$Parser", "names", "(I)V"⟩, 12) := ⟨⟨by decide +kernel, by decide +kernel⟩, List.mem_of_getElem? (i := 271) (by decide +kernel), List.mem_of_getElem? (i := 1022) (by decide +kernel), List.mem_of_getElem? (i := 1023) (by decide +kernel)⟩
theorem lw_p55 : lw_okq (⟨"WordTongue$Scope", "cut", "(I)V"⟩, 8) := ⟨⟨by decide +kernel, by decide +kernel⟩, List.mem_of_getElem? (i := 342) (by decide +kernel), List.mem_of_getElem? (i := 1038) (by decide +kernel), List.mem_of_getElem? (i := 1039) (by decide +kernel)⟩
theorem lw_p56 : lw_okq (⟨"WordTongue$Scope", "put", "(IIIII)I"⟩, 8) := ⟨⟨by decide +kernel, by decide +kernel⟩, List.mem_of_getElem? (i := 342) (by decide +kernel), List.mem_of_getElem? (i := 1044) (by decide +kernel), List.mem_of_getElem? (i := 1045) (by decide +kernel)⟩
theorem lw_p57 : lw_okq (⟨"WordTongue$Coder", "leaveAll", "()V"⟩, 19) := ⟨⟨by decide +kernel, by decide +kernel⟩, List.mem_of_getElem? (i := 333) (by decide +kernel), List.mem_of_getElem? (i := 1051) (by decide +kernel), List.mem_of_getElem? (i := 1052) (by decide +kernel)⟩
theorem lw_p58 : lw_okq (⟨"WordTongue$Coder", "section", "(I)V"⟩, 19) := ⟨⟨by decide +kernel, by decide +kernel⟩, List.mem_of_getElem? (i := 333) (by decide +kernel), List.mem_of_getElem? (i := 1055) (by decide +kernel), List.mem_of_getElem? (i := 1056) (by decide +kernel)⟩
theorem lw_p59 : lw_okq (⟨"WordTongue$Coder", "entrance", "(I)V"⟩, 19) := ⟨⟨by decide +kernel, by decide +kernel⟩, List.mem_of_getElem? (i := 333) (by decide +kernel), List.mem_of_getElem? (i := 1087) (by decide +kernel), List.mem_of_getElem? (i := 1088) (by decide +kernel)⟩
theorem lw_p60 : lw_okq (⟨"WordTongue$Constants", "reckon", "(IZ)I"⟩, 7) := ⟨⟨by decide +kernel, by decide +kernel⟩, List.mem_of_getElem? (i := 376) (by decide +kernel), List.mem_of_getElem? (i := 1097) (by decide +kernel), List.mem_of_getElem? (i := 1098) (by decide +kernel)⟩
theorem lw_p61 : lw_okq (⟨"WordTongue$Constants", "choose", "(IZ)I"⟩, 7) := ⟨⟨by decide +kernel, by decide +kernel⟩, List.mem_of_getElem? (i := 376) (by decide +kernel), List.mem_of_getElem? (i := 1106) (by decide +kernel), List.mem_of_getElem? (i := 1107) (by decide +kernel)⟩
theorem lw_p62 : lw_okq (⟨"WordTongue$Constants", "fail", "(II)V"⟩, 7) := ⟨⟨by decide +kernel, by decide +kernel⟩, List.mem_of_getElem? (i := 376) (by decide +kernel), List.mem_of_getElem? (i := 1111) (by decide +kernel), List.mem_of_getElem? (i := 1112) (by decide +kernel)⟩
theorem lw_p63 : lw_okq (⟨"WordTongue$Constants", "relate", "(IZZ)Z"⟩, 7) := ⟨⟨by decide +kernel, by decide +kernel⟩, List.mem_of_getElem? (i := 376) (by decide +kernel), List.mem_of_getElem? (i := 1117) (by decide +kernel), List.mem_of_getElem? (i := 1118) (by decide +kernel)⟩
def lw_privs_4 : List (MethodName × Nat) := [(⟨"WordTongue$Parser", "calls", "(I)I"⟩, 12), (⟨"WordTongue$Parser", "hangSigns", "(II)V"⟩, 12), (⟨"WordTongue$Parser", "settle", "(III)V"⟩, 12), (⟨"WordTongue$Parser", "variables", "(I)V"⟩, 12), (⟨"WordTongue$Parser", "routine", "(Z)I"⟩, 12), (⟨"WordTongue$Parser", "isGlobal", "(I)Z"⟩, 12), (⟨"WordTongue$Parser", "names", "(I)V"⟩, 12), (⟨"WordTongue$Scope", "cut", "(I)V"⟩, 8), (⟨"WordTongue$Scope", "put", "(IIIII)I"⟩, 8), (⟨"WordTongue$Coder", "leaveAll", "()V"⟩, 19), (⟨"WordTongue$Coder", "section", "(I)V"⟩, 19), (⟨"WordTongue$Coder", "entrance", "(I)V"⟩, 19), (⟨"WordTongue$Constants", "reckon", "(IZ)I"⟩, 7), (⟨"WordTongue$Constants", "choose", "(IZ)I"⟩, 7), (⟨"WordTongue$Constants", "fail", "(II)V"⟩, 7), (⟨"WordTongue$Constants", "relate", "(IZZ)Z"⟩, 7)]
theorem lw_r4 : ∀ q ∈ lw_privs_4, lw_okq q := List.forall_mem_cons.mpr ⟨lw_p48, List.forall_mem_cons.mpr ⟨lw_p49, List.forall_mem_cons.mpr ⟨lw_p50, List.forall_mem_cons.mpr ⟨lw_p51, List.forall_mem_cons.mpr ⟨lw_p52, List.forall_mem_cons.mpr ⟨lw_p53, List.forall_mem_cons.mpr ⟨lw_p54, List.forall_mem_cons.mpr ⟨lw_p55, List.forall_mem_cons.mpr ⟨lw_p56, List.forall_mem_cons.mpr ⟨lw_p57, List.forall_mem_cons.mpr ⟨lw_p58, List.forall_mem_cons.mpr ⟨lw_p59, List.forall_mem_cons.mpr ⟨lw_p60, List.forall_mem_cons.mpr ⟨lw_p61, List.forall_mem_cons.mpr ⟨lw_p62, List.forall_mem_cons.mpr ⟨lw_p63, fun _ h => absurd h List.not_mem_nil⟩⟩⟩⟩⟩⟩⟩⟩⟩⟩⟩⟩⟩⟩⟩⟩
theorem lw_p64 : lw_okq (⟨"WordTongue$Constants", "work", "(IZI)V"⟩, 7) := ⟨⟨by decide +kernel, by decide +kernel⟩, List.mem_of_getElem? (i := 376) (by decide +kernel), List.mem_of_getElem? (i := 1125) (by decide +kernel), List.mem_of_getElem? (i := 1126) (by decide +kernel)⟩
theorem lw_p65 : lw_okq (⟨"WordTongue$Constants", "single", "(III)V"⟩, 7) := ⟨⟨by decide +kernel, by decide +kernel⟩, List.mem_of_getElem? (i := 376) (by decide +kernel), List.mem_of_getElem? (i := 1151) (by decide +kernel), List.mem_of_getElem? (i := 1152) (by decide +kernel)⟩
theorem lw_p66 : lw_okq (⟨"WordTongue$Coder", "routines", "(I)V"⟩, 19) := ⟨⟨by decide +kernel, by decide +kernel⟩, List.mem_of_getElem? (i := 333) (by decide +kernel), List.mem_of_getElem? (i := 1161) (by decide +kernel), List.mem_of_getElem? (i := 1162) (by decide +kernel)⟩
theorem lw_p67 : lw_okq (⟨"WordTongue$Coder", "routineName", "(I)V"⟩, 19) := ⟨⟨by decide +kernel, by decide +kernel⟩, List.mem_of_getElem? (i := 333) (by decide +kernel), List.mem_of_getElem? (i := 1165) (by decide +kernel), List.mem_of_getElem? (i := 1166) (by decide +kernel)⟩
theorem lw_p68 : lw_okq (⟨"WordTongue$Coder", "routine", "(I)V"⟩, 19) := ⟨⟨by decide +kernel, by decide +kernel⟩, List.mem_of_getElem? (i := 333) (by decide +kernel), List.mem_of_getElem? (i := 1192) (by decide +kernel), List.mem_of_getElem? (i := 1193) (by decide +kernel)⟩
theorem lw_p69 : lw_okq (⟨"WordTongue$Coder", "emit", "(II)I"⟩, 19) := ⟨⟨by decide +kernel, by decide +kernel⟩, List.mem_of_getElem? (i := 333) (by decide +kernel), List.mem_of_getElem? (i := 1196) (by decide +kernel), List.mem_of_getElem? (i := 1197) (by decide +kernel)⟩
theorem lw_p70 : lw_okq (⟨"WordTongue$Coder", "parameters", "(I)I"⟩, 19) := ⟨⟨by decide +kernel, by decide +kernel⟩, List.mem_of_getElem? (i := 333) (by decide +kernel), List.mem_of_getElem? (i := 1201) (by decide +kernel), List.mem_of_getElem? (i := 1202) (by decide +kernel)⟩
theorem lw_p71 : lw_okq (⟨"WordTongue$Coder", "expression", "(III)V"⟩, 19) := ⟨⟨by decide +kernel, by decide +kernel⟩, List.mem_of_getElem? (i := 333) (by decide +kernel), List.mem_of_getElem? (i := 1210) (by decide +kernel), List.mem_of_getElem? (i := 1211) (by decide +kernel)⟩
theorem lw_p72 : lw_okq (⟨"WordTongue$Coder", "calls", "(I)V"⟩, 19) := ⟨⟨by decide +kernel, by decide +kernel⟩, List.mem_of_getElem? (i := 333) (by decide +kernel), List.mem_of_getElem? (i := 1214) (by decide +kernel), List.mem_of_getElem? (i := 1215) (by decide +kernel)⟩
theorem lw_p73 : lw_okq (⟨"WordTongue$Coder", "arguments", "(II)V"⟩, 19) := ⟨⟨by decide +kernel, by decide +kernel⟩, List.mem_of_getElem? (i := 333) (by decide +kernel), List.mem_of_getElem? (i := 1218) (by decide +kernel), List.mem_of_getElem? (i := 1219) (by decide +kernel)⟩
theorem lw_p74 : lw_okq (⟨"WordTongue$Coder", "unfit", "(II)V"⟩, 19) := ⟨⟨by decide +kernel, by decide +kernel⟩, List.mem_of_getElem? (i := 333) (by decide +kernel), List.mem_of_getElem? (i := 1222) (by decide +kernel), List.mem_of_getElem? (i := 1223) (by decide +kernel)⟩
theorem lw_p75 : lw_okq (⟨"WordTongue$Coder", "valof", "(I)V"⟩, 19) := ⟨⟨by decide +kernel, by decide +kernel⟩, List.mem_of_getElem? (i := 333) (by decide +kernel), List.mem_of_getElem? (i := 1226) (by decide +kernel), List.mem_of_getElem? (i := 1227) (by decide +kernel)⟩
theorem lw_p76 : lw_okq (⟨"WordTongue$Coder", "command", "(I)V"⟩, 19) := ⟨⟨by decide +kernel, by decide +kernel⟩, List.mem_of_getElem? (i := 333) (by decide +kernel), List.mem_of_getElem? (i := 1230) (by decide +kernel), List.mem_of_getElem? (i := 1231) (by decide +kernel)⟩
theorem lw_p77 : lw_okq (⟨"WordTongue$Coder", "repeats", "(I)V"⟩, 19) := ⟨⟨by decide +kernel, by decide +kernel⟩, List.mem_of_getElem? (i := 333) (by decide +kernel), List.mem_of_getElem? (i := 1234) (by decide +kernel), List.mem_of_getElem? (i := 1235) (by decide +kernel)⟩
theorem lw_p78 : lw_okq (⟨"WordTongue$Coder", "assignment", "(I)V"⟩, 19) := ⟨⟨by decide +kernel, by decide +kernel⟩, List.mem_of_getElem? (i := 333) (by decide +kernel), List.mem_of_getElem? (i := 1242) (by decide +kernel), List.mem_of_getElem? (i := 1243) (by decide +kernel)⟩
theorem lw_p79 : lw_okq (⟨"WordTongue$Coder", "isByte", "(I)Z"⟩, 19) := ⟨⟨by decide +kernel, by decide +kernel⟩, List.mem_of_getElem? (i := 333) (by decide +kernel), List.mem_of_getElem? (i := 1246) (by decide +kernel), List.mem_of_getElem? (i := 1247) (by decide +kernel)⟩
def lw_privs_5 : List (MethodName × Nat) := [(⟨"WordTongue$Constants", "work", "(IZI)V"⟩, 7), (⟨"WordTongue$Constants", "single", "(III)V"⟩, 7), (⟨"WordTongue$Coder", "routines", "(I)V"⟩, 19), (⟨"WordTongue$Coder", "routineName", "(I)V"⟩, 19), (⟨"WordTongue$Coder", "routine", "(I)V"⟩, 19), (⟨"WordTongue$Coder", "emit", "(II)I"⟩, 19), (⟨"WordTongue$Coder", "parameters", "(I)I"⟩, 19), (⟨"WordTongue$Coder", "expression", "(III)V"⟩, 19), (⟨"WordTongue$Coder", "calls", "(I)V"⟩, 19), (⟨"WordTongue$Coder", "arguments", "(II)V"⟩, 19), (⟨"WordTongue$Coder", "unfit", "(II)V"⟩, 19), (⟨"WordTongue$Coder", "valof", "(I)V"⟩, 19), (⟨"WordTongue$Coder", "command", "(I)V"⟩, 19), (⟨"WordTongue$Coder", "repeats", "(I)V"⟩, 19), (⟨"WordTongue$Coder", "assignment", "(I)V"⟩, 19), (⟨"WordTongue$Coder", "isByte", "(I)Z"⟩, 19)]
theorem lw_r5 : ∀ q ∈ lw_privs_5, lw_okq q := List.forall_mem_cons.mpr ⟨lw_p64, List.forall_mem_cons.mpr ⟨lw_p65, List.forall_mem_cons.mpr ⟨lw_p66, List.forall_mem_cons.mpr ⟨lw_p67, List.forall_mem_cons.mpr ⟨lw_p68, List.forall_mem_cons.mpr ⟨lw_p69, List.forall_mem_cons.mpr ⟨lw_p70, List.forall_mem_cons.mpr ⟨lw_p71, List.forall_mem_cons.mpr ⟨lw_p72, List.forall_mem_cons.mpr ⟨lw_p73, List.forall_mem_cons.mpr ⟨lw_p74, List.forall_mem_cons.mpr ⟨lw_p75, List.forall_mem_cons.mpr ⟨lw_p76, List.forall_mem_cons.mpr ⟨lw_p77, List.forall_mem_cons.mpr ⟨lw_p78, List.forall_mem_cons.mpr ⟨lw_p79, fun _ h => absurd h List.not_mem_nil⟩⟩⟩⟩⟩⟩⟩⟩⟩⟩⟩⟩⟩⟩⟩⟩
theorem lw_p80 : lw_okq (⟨"WordTongue$Coder", "conditional", "(I)V"⟩, 19) := ⟨⟨by decide +kernel, by decide +kernel⟩, List.mem_of_getElem? (i := 333) (by decide +kernel), List.mem_of_getElem? (i := 1254) (by decide +kernel), List.mem_of_getElem? (i := 1255) (by decide +kernel)⟩
theorem lw_p81 : lw_okq (⟨"WordTongue$Coder", "asking", "(I)V"⟩, 19) := ⟨⟨by decide +kernel, by decide +kernel⟩, List.mem_of_getElem? (i := 333) (by decide +kernel), List.mem_of_getElem? (i := 1258) (by decide +kernel), List.mem_of_getElem? (i := 1259) (by decide +kernel)⟩
theorem lw_p82 : lw_okq (⟨"WordTongue$Coder", "counting", "(I)V"⟩, 19) := ⟨⟨by decide +kernel, by decide +kernel⟩, List.mem_of_getElem? (i := 333) (by decide +kernel), List.mem_of_getElem? (i := 1266) (by decide +kernel), List.mem_of_getElem? (i := 1267) (by decide +kernel)⟩
theorem lw_p83 : lw_okq (⟨"WordTongue$Coder", "take", "(I)V"⟩, 19) := ⟨⟨by decide +kernel, by decide +kernel⟩, List.mem_of_getElem? (i := 333) (by decide +kernel), List.mem_of_getElem? (i := 1270) (by decide +kernel), List.mem_of_getElem? (i := 1271) (by decide +kernel)⟩
theorem lw_p84 : lw_okq (⟨"WordTongue$Coder", "switching", "(I)V"⟩, 19) := ⟨⟨by decide +kernel, by decide +kernel⟩, List.mem_of_getElem? (i := 333) (by decide +kernel), List.mem_of_getElem? (i := 1281) (by decide +kernel), List.mem_of_getElem? (i := 1282) (by decide +kernel)⟩
theorem lw_p85 : lw_okq (⟨"WordTongue$Coder", "telling", "(I)V"⟩, 19) := ⟨⟨by decide +kernel, by decide +kernel⟩, List.mem_of_getElem? (i := 333) (by decide +kernel), List.mem_of_getElem? (i := 1285) (by decide +kernel), List.mem_of_getElem? (i := 1286) (by decide +kernel)⟩
theorem lw_p86 : lw_okq (⟨"WordTongue$Coder", "leaving", "(I)V"⟩, 19) := ⟨⟨by decide +kernel, by decide +kernel⟩, List.mem_of_getElem? (i := 333) (by decide +kernel), List.mem_of_getElem? (i := 1289) (by decide +kernel), List.mem_of_getElem? (i := 1290) (by decide +kernel)⟩
theorem lw_p87 : lw_okq (⟨"WordTongue$Coder", "going", "(I)V"⟩, 19) := ⟨⟨by decide +kernel, by decide +kernel⟩, List.mem_of_getElem? (i := 333) (by decide +kernel), List.mem_of_getElem? (i := 1293) (by decide +kernel), List.mem_of_getElem? (i := 1294) (by decide +kernel)⟩
theorem lw_p88 : lw_okq (⟨"WordTongue$Coder", "choice", "(I)V"⟩, 19) := ⟨⟨by decide +kernel, by decide +kernel⟩, List.mem_of_getElem? (i := 333) (by decide +kernel), List.mem_of_getElem? (i := 1298) (by decide +kernel), List.mem_of_getElem? (i := 1299) (by decide +kernel)⟩
theorem lw_p89 : lw_okq (⟨"WordTongue$Coder", "table", "(I)V"⟩, 19) := ⟨⟨by decide +kernel, by decide +kernel⟩, List.mem_of_getElem? (i := 333) (by decide +kernel), List.mem_of_getElem? (i := 1302) (by decide +kernel), List.mem_of_getElem? (i := 1303) (by decide +kernel)⟩
theorem lw_p90 : lw_okq (⟨"WordTongue$Coder", "sign", "(II)I"⟩, 19) := ⟨⟨by decide +kernel, by decide +kernel⟩, List.mem_of_getElem? (i := 333) (by decide +kernel), List.mem_of_getElem? (i := 1306) (by decide +kernel), List.mem_of_getElem? (i := 1307) (by decide +kernel)⟩
theorem lw_p91 : lw_okq (⟨"WordTongue$Coder", "single", "(III)V"⟩, 19) := ⟨⟨by decide +kernel, by decide +kernel⟩, List.mem_of_getElem? (i := 333) (by decide +kernel), List.mem_of_getElem? (i := 1311) (by decide +kernel), List.mem_of_getElem? (i := 1312) (by decide +kernel)⟩
theorem lw_p92 : lw_okq (⟨"WordTongue$Coder", "name", "(III)V"⟩, 19) := ⟨⟨by decide +kernel, by decide +kernel⟩, List.mem_of_getElem? (i := 333) (by decide +kernel), List.mem_of_getElem? (i := 1315) (by decide +kernel), List.mem_of_getElem? (i := 1316) (by decide +kernel)⟩
theorem lw_p93 : lw_okq (⟨"WordTongue$Coder", "unary", "(I)V"⟩, 19) := ⟨⟨by decide +kernel, by decide +kernel⟩, List.mem_of_getElem? (i := 333) (by decide +kernel), List.mem_of_getElem? (i := 1319) (by decide +kernel), List.mem_of_getElem? (i := 1320) (by decide +kernel)⟩
theorem lw_p94 : lw_okq (⟨"WordTongue$Coder", "variables", "(I)V"⟩, 19) := ⟨⟨by decide +kernel, by decide +kernel⟩, List.mem_of_getElem? (i := 333) (by decide +kernel), List.mem_of_getElem? (i := 1327) (by decide +kernel), List.mem_of_getElem? (i := 1328) (by decide +kernel)⟩
theorem lw_p95 : lw_okq (⟨"WordTongue$Coder", "definitions", "(I)V"⟩, 19) := ⟨⟨by decide +kernel, by decide +kernel⟩, List.mem_of_getElem? (i := 333) (by decide +kernel), List.mem_of_getElem? (i := 1331) (by decide +kernel), List.mem_of_getElem? (i := 1332) (by decide +kernel)⟩
def lw_privs_6 : List (MethodName × Nat) := [(⟨"WordTongue$Coder", "conditional", "(I)V"⟩, 19), (⟨"WordTongue$Coder", "asking", "(I)V"⟩, 19), (⟨"WordTongue$Coder", "counting", "(I)V"⟩, 19), (⟨"WordTongue$Coder", "take", "(I)V"⟩, 19), (⟨"WordTongue$Coder", "switching", "(I)V"⟩, 19), (⟨"WordTongue$Coder", "telling", "(I)V"⟩, 19), (⟨"WordTongue$Coder", "leaving", "(I)V"⟩, 19), (⟨"WordTongue$Coder", "going", "(I)V"⟩, 19), (⟨"WordTongue$Coder", "choice", "(I)V"⟩, 19), (⟨"WordTongue$Coder", "table", "(I)V"⟩, 19), (⟨"WordTongue$Coder", "sign", "(II)I"⟩, 19), (⟨"WordTongue$Coder", "single", "(III)V"⟩, 19), (⟨"WordTongue$Coder", "name", "(III)V"⟩, 19), (⟨"WordTongue$Coder", "unary", "(I)V"⟩, 19), (⟨"WordTongue$Coder", "variables", "(I)V"⟩, 19), (⟨"WordTongue$Coder", "definitions", "(I)V"⟩, 19)]
theorem lw_r6 : ∀ q ∈ lw_privs_6, lw_okq q := List.forall_mem_cons.mpr ⟨lw_p80, List.forall_mem_cons.mpr ⟨lw_p81, List.forall_mem_cons.mpr ⟨lw_p82, List.forall_mem_cons.mpr ⟨lw_p83, List.forall_mem_cons.mpr ⟨lw_p84, List.forall_mem_cons.mpr ⟨lw_p85, List.forall_mem_cons.mpr ⟨lw_p86, List.forall_mem_cons.mpr ⟨lw_p87, List.forall_mem_cons.mpr ⟨lw_p88, List.forall_mem_cons.mpr ⟨lw_p89, List.forall_mem_cons.mpr ⟨lw_p90, List.forall_mem_cons.mpr ⟨lw_p91, List.forall_mem_cons.mpr ⟨lw_p92, List.forall_mem_cons.mpr ⟨lw_p93, List.forall_mem_cons.mpr ⟨lw_p94, List.forall_mem_cons.mpr ⟨lw_p95, fun _ h => absurd h List.not_mem_nil⟩⟩⟩⟩⟩⟩⟩⟩⟩⟩⟩⟩⟩⟩⟩⟩
theorem lw_p96 : lw_okq (⟨"WordTongue$Channels", "isInput", "(I)Z"⟩, 5) := ⟨⟨by decide +kernel, by decide +kernel⟩, List.mem_of_getElem? (i := 465) (by decide +kernel), List.mem_of_getElem? (i := 1381) (by decide +kernel), List.mem_of_getElem? (i := 1382) (by decide +kernel)⟩
theorem lw_p97 : lw_okq (⟨"WordTongue$Machine", "prepare", "()V"⟩, 16) := ⟨⟨by decide +kernel, by decide +kernel⟩, List.mem_of_getElem? (i := 490) (by decide +kernel), List.mem_of_getElem? (i := 1406) (by decide +kernel), List.mem_of_getElem? (i := 1407) (by decide +kernel)⟩
theorem lw_p98 : lw_okq (⟨"WordTongue$Machine", "put", "(II)V"⟩, 16) := ⟨⟨by decide +kernel, by decide +kernel⟩, List.mem_of_getElem? (i := 490) (by decide +kernel), List.mem_of_getElem? (i := 1423) (by decide +kernel), List.mem_of_getElem? (i := 1424) (by decide +kernel)⟩
theorem lw_p99 : lw_okq (⟨"WordTongue$Machine", "isThere", "(I)Z"⟩, 16) := ⟨⟨by decide +kernel, by decide +kernel⟩, List.mem_of_getElem? (i := 490) (by decide +kernel), List.mem_of_getElem? (i := 1427) (by decide +kernel), List.mem_of_getElem? (i := 1428) (by decide +kernel)⟩
theorem lw_p100 : lw_okq (⟨"WordTongue$Machine", "fail", "(I)V"⟩, 16) := ⟨⟨by decide +kernel, by decide +kernel⟩, List.mem_of_getElem? (i := 490) (by decide +kernel), List.mem_of_getElem? (i := 1431) (by decide +kernel), List.mem_of_getElem? (i := 1432) (by decide +kernel)⟩
theorem lw_p101 : lw_okq (⟨"WordTongue$Machine", "enter", "(III)V"⟩, 16) := ⟨⟨by decide +kernel, by decide +kernel⟩, List.mem_of_getElem? (i := 490) (by decide +kernel), List.mem_of_getElem? (i := 1450) (by decide +kernel), List.mem_of_getElem? (i := 1451) (by decide +kernel)⟩
theorem lw_p102 : lw_okq (⟨"WordTongue$Machine", "burns", "()Z"⟩, 16) := ⟨⟨by decide +kernel, by decide +kernel⟩, List.mem_of_getElem? (i := 490) (by decide +kernel), List.mem_of_getElem? (i := 1454) (by decide +kernel), List.mem_of_getElem? (i := 1455) (by decide +kernel)⟩
theorem lw_p103 : lw_okq (⟨"WordTongue$Machine", "argument", "(II)I"⟩, 16) := ⟨⟨by decide +kernel, by decide +kernel⟩, List.mem_of_getElem? (i := 490) (by decide +kernel), List.mem_of_getElem? (i := 1474) (by decide +kernel), List.mem_of_getElem? (i := 1475) (by decide +kernel)⟩
theorem lw_p104 : lw_okq (⟨"WordTongue$Machine", "step", "(II)V"⟩, 16) := ⟨⟨by decide +kernel, by decide +kernel⟩, List.mem_of_getElem? (i := 490) (by decide +kernel), List.mem_of_getElem? (i := 1489) (by decide +kernel), List.mem_of_getElem? (i := 1490) (by decide +kernel)⟩
theorem lw_p105 : lw_okq (⟨"WordTongue$Machine", "look", "(I)I"⟩, 16) := ⟨⟨by decide +kernel, by decide +kernel⟩, List.mem_of_getElem? (i := 490) (by decide +kernel), List.mem_of_getElem? (i := 1493) (by decide +kernel), List.mem_of_getElem? (i := 1494) (by decide +kernel)⟩
theorem lw_p106 : lw_okq (⟨"WordTongue$Machine", "lookByte", "()V"⟩, 16) := ⟨⟨by decide +kernel, by decide +kernel⟩, List.mem_of_getElem? (i := 490) (by decide +kernel), List.mem_of_getElem? (i := 1498) (by decide +kernel), List.mem_of_getElem? (i := 1499) (by decide +kernel)⟩
theorem lw_p107 : lw_okq (⟨"WordTongue$Machine", "wordOfByte", "(II)I"⟩, 16) := ⟨⟨by decide +kernel, by decide +kernel⟩, List.mem_of_getElem? (i := 490) (by decide +kernel), List.mem_of_getElem? (i := 1502) (by decide +kernel), List.mem_of_getElem? (i := 1503) (by decide +kernel)⟩
theorem lw_p108 : lw_okq (⟨"WordTongue$Machine", "putByte", "()V"⟩, 16) := ⟨⟨by decide +kernel, by decide +kernel⟩, List.mem_of_getElem? (i := 490) (by decide +kernel), List.mem_of_getElem? (i := 1506) (by decide +kernel), List.mem_of_getElem? (i := 1507) (by decide +kernel)⟩
theorem lw_p109 : lw_okq (⟨"WordTongue$Machine", "finish", "(II)V"⟩, 16) := ⟨⟨by decide +kernel, by decide +kernel⟩, List.mem_of_getElem? (i := 490) (by decide +kernel), List.mem_of_getElem? (i := 1510) (by decide +kernel), List.mem_of_getElem? (i := 1511) (by decide +kernel)⟩
theorem lw_p110 : lw_okq (⟨"WordTongue$Machine", "turn", "(II)V"⟩, 16) := ⟨⟨by decide +kernel, by decide +kernel⟩, List.mem_of_getElem? (i := 490) (by decide +kernel), List.mem_of_getElem? (i := 1514) (by decide +kernel), List.mem_of_getElem? (i := 1515) (by decide +kernel)⟩
theorem lw_p111 : lw_okq (⟨"WordTongue$Machine", "call", "(III)V"⟩, 16) := ⟨⟨by decide +kernel, by decide +kernel⟩, List.mem_of_getElem? (i := 490) (by decide +kernel), List.mem_of_getElem? (i := 1519) (by decide +kernel), List.mem_of_getElem? (i := 1520) (by decide +kernel)⟩
def lw_privs_7 : List (MethodName × Nat) := [(⟨"WordTongue$Channels", "isInput", "(I)Z"⟩, 5), (⟨"WordTongue$Machine", "prepare", "()V"⟩, 16), (⟨"WordTongue$Machine", "put", "(II)V"⟩, 16), (⟨"WordTongue$Machine", "isThere", "(I)Z"⟩, 16), (⟨"WordTongue$Machine", "fail", "(I)V"⟩, 16), (⟨"WordTongue$Machine", "enter", "(III)V"⟩, 16), (⟨"WordTongue$Machine", "burns", "()Z"⟩, 16), (⟨"WordTongue$Machine", "argument", "(II)I"⟩, 16), (⟨"WordTongue$Machine", "step", "(II)V"⟩, 16), (⟨"WordTongue$Machine", "look", "(I)I"⟩, 16), (⟨"WordTongue$Machine", "lookByte", "()V"⟩, 16), (⟨"WordTongue$Machine", "wordOfByte", "(II)I"⟩, 16), (⟨"WordTongue$Machine", "putByte", "()V"⟩, 16), (⟨"WordTongue$Machine", "finish", "(II)V"⟩, 16), (⟨"WordTongue$Machine", "turn", "(II)V"⟩, 16), (⟨"WordTongue$Machine", "call", "(III)V"⟩, 16)]
theorem lw_r7 : ∀ q ∈ lw_privs_7, lw_okq q := List.forall_mem_cons.mpr ⟨lw_p96, List.forall_mem_cons.mpr ⟨lw_p97, List.forall_mem_cons.mpr ⟨lw_p98, List.forall_mem_cons.mpr ⟨lw_p99, List.forall_mem_cons.mpr ⟨lw_p100, List.forall_mem_cons.mpr ⟨lw_p101, List.forall_mem_cons.mpr ⟨lw_p102, List.forall_mem_cons.mpr ⟨lw_p103, List.forall_mem_cons.mpr ⟨lw_p104, List.forall_mem_cons.mpr ⟨lw_p105, List.forall_mem_cons.mpr ⟨lw_p106, List.forall_mem_cons.mpr ⟨lw_p107, List.forall_mem_cons.mpr ⟨lw_p108, List.forall_mem_cons.mpr ⟨lw_p109, List.forall_mem_cons.mpr ⟨lw_p110, List.forall_mem_cons.mpr ⟨lw_p111, fun _ h => absurd h List.not_mem_nil⟩⟩⟩⟩⟩⟩⟩⟩⟩⟩⟩⟩⟩⟩⟩⟩
theorem lw_p112 : lw_okq (⟨"WordTongue$Machine", "apply", "(II)V"⟩, 16) := ⟨⟨by decide +kernel, by decide +kernel⟩, List.mem_of_getElem? (i := 490) (by decide +kernel), List.mem_of_getElem? (i := 1531) (by decide +kernel), List.mem_of_getElem? (i := 1532) (by decide +kernel)⟩
theorem lw_p113 : lw_okq (⟨"WordTongue$Machine", "back", "()V"⟩, 16) := ⟨⟨by decide +kernel, by decide +kernel⟩, List.mem_of_getElem? (i := 490) (by decide +kernel), List.mem_of_getElem? (i := 1536) (by decide +kernel), List.mem_of_getElem? (i := 1537) (by decide +kernel)⟩
theorem lw_p114 : lw_okq (⟨"WordTongue$Machine", "link", "(IIII)V"⟩, 16) := ⟨⟨by decide +kernel, by decide +kernel⟩, List.mem_of_getElem? (i := 490) (by decide +kernel), List.mem_of_getElem? (i := 1540) (by decide +kernel), List.mem_of_getElem? (i := 1541) (by decide +kernel)⟩
theorem lw_p115 : lw_okq (⟨"WordTongue$Machine", "work", "(III)V"⟩, 16) := ⟨⟨by decide +kernel, by decide +kernel⟩, List.mem_of_getElem? (i := 490) (by decide +kernel), List.mem_of_getElem? (i := 1545) (by decide +kernel), List.mem_of_getElem? (i := 1546) (by decide +kernel)⟩
theorem lw_p116 : lw_okq (⟨"WordTongue$Machine", "serve", "()V"⟩, 16) := ⟨⟨by decide +kernel, by decide +kernel⟩, List.mem_of_getElem? (i := 490) (by decide +kernel), List.mem_of_getElem? (i := 1552) (by decide +kernel), List.mem_of_getElem? (i := 1553) (by decide +kernel)⟩
theorem lw_p117 : lw_okq (⟨"WordTongue$Machine", "exchange", "(II)I"⟩, 16) := ⟨⟨by decide +kernel, by decide +kernel⟩, List.mem_of_getElem? (i := 490) (by decide +kernel), List.mem_of_getElem? (i := 1556) (by decide +kernel), List.mem_of_getElem? (i := 1557) (by decide +kernel)⟩
theorem lw_p118 : lw_okq (⟨"WordTongue$Channels", "isOutput", "(I)Z"⟩, 5) := ⟨⟨by decide +kernel, by decide +kernel⟩, List.mem_of_getElem? (i := 465) (by decide +kernel), List.mem_of_getElem? (i := 1573) (by decide +kernel), List.mem_of_getElem? (i := 1574) (by decide +kernel)⟩
theorem lw_p119 : lw_okq (⟨"WordTongue$Machine", "writeString", "(I)V"⟩, 16) := ⟨⟨by decide +kernel, by decide +kernel⟩, List.mem_of_getElem? (i := 490) (by decide +kernel), List.mem_of_getElem? (i := 1578) (by decide +kernel), List.mem_of_getElem? (i := 1579) (by decide +kernel)⟩
theorem lw_p120 : lw_okq (⟨"WordTongue$Channels", "next", "()I"⟩, 5) := ⟨⟨by decide +kernel, by decide +kernel⟩, List.mem_of_getElem? (i := 465) (by decide +kernel), List.mem_of_getElem? (i := 1587) (by decide +kernel), List.mem_of_getElem? (i := 1588) (by decide +kernel)⟩
theorem lw_p121 : lw_okq (⟨"WordTongue$Machine", "reckon", "(IIII)I"⟩, 16) := ⟨⟨by decide +kernel, by decide +kernel⟩, List.mem_of_getElem? (i := 490) (by decide +kernel), List.mem_of_getElem? (i := 1608) (by decide +kernel), List.mem_of_getElem? (i := 1609) (by decide +kernel)⟩
theorem lw_p122 : lw_okq (⟨"WordTongue$Heap", "touched", "(II)I"⟩, 2) := ⟨⟨by decide +kernel, by decide +kernel⟩, List.mem_of_getElem? (i := 496) (by decide +kernel), List.mem_of_getElem? (i := 1616) (by decide +kernel), List.mem_of_getElem? (i := 1617) (by decide +kernel)⟩
theorem lw_p123 : lw_okq (⟨"WordTongueModel", "scan", "()I"⟩, 119) := ⟨⟨by decide +kernel, by decide +kernel⟩, List.mem_of_getElem? (i := 1710) (by decide +kernel), List.mem_of_getElem? (i := 2095) (by decide +kernel), List.mem_of_getElem? (i := 2096) (by decide +kernel)⟩
theorem lw_p124 : lw_okq (⟨"WordTongueModel", "look", "(I)I"⟩, 119) := ⟨⟨by decide +kernel, by decide +kernel⟩, List.mem_of_getElem? (i := 1710) (by decide +kernel), List.mem_of_getElem? (i := 2099) (by decide +kernel), List.mem_of_getElem? (i := 2100) (by decide +kernel)⟩
theorem lw_p125 : lw_okq (⟨"WordTongueModel", "isPair", "(III)Z"⟩, 119) := ⟨⟨by decide +kernel, by decide +kernel⟩, List.mem_of_getElem? (i := 1710) (by decide +kernel), List.mem_of_getElem? (i := 2103) (by decide +kernel), List.mem_of_getElem? (i := 2104) (by decide +kernel)⟩
theorem lw_p126 : lw_okq (⟨"WordTongueModel", "one", "(II)I"⟩, 119) := ⟨⟨by decide +kernel, by decide +kernel⟩, List.mem_of_getElem? (i := 1710) (by decide +kernel), List.mem_of_getElem? (i := 2107) (by decide +kernel), List.mem_of_getElem? (i := 2108) (by decide +kernel)⟩
theorem lw_p127 : lw_okq (⟨"WordTongueModel", "keyword", "(II)I"⟩, 119) := ⟨⟨by decide +kernel, by decide +kernel⟩, List.mem_of_getElem? (i := 1710) (by decide +kernel), List.mem_of_getElem? (i := 2120) (by decide +kernel), List.mem_of_getElem? (i := 2121) (by decide +kernel)⟩
def lw_privs_8 : List (MethodName × Nat) := [(⟨"WordTongue$Machine", "apply", "(II)V"⟩, 16), (⟨"WordTongue$Machine", "back", "()V"⟩, 16), (⟨"WordTongue$Machine", "link", "(IIII)V"⟩, 16), (⟨"WordTongue$Machine", "work", "(III)V"⟩, 16), (⟨"WordTongue$Machine", "serve", "()V"⟩, 16), (⟨"WordTongue$Machine", "exchange", "(II)I"⟩, 16), (⟨"WordTongue$Channels", "isOutput", "(I)Z"⟩, 5), (⟨"WordTongue$Machine", "writeString", "(I)V"⟩, 16), (⟨"WordTongue$Channels", "next", "()I"⟩, 5), (⟨"WordTongue$Machine", "reckon", "(IIII)I"⟩, 16), (⟨"WordTongue$Heap", "touched", "(II)I"⟩, 2), (⟨"WordTongueModel", "scan", "()I"⟩, 119), (⟨"WordTongueModel", "look", "(I)I"⟩, 119), (⟨"WordTongueModel", "isPair", "(III)Z"⟩, 119), (⟨"WordTongueModel", "one", "(II)I"⟩, 119), (⟨"WordTongueModel", "keyword", "(II)I"⟩, 119)]
theorem lw_r8 : ∀ q ∈ lw_privs_8, lw_okq q := List.forall_mem_cons.mpr ⟨lw_p112, List.forall_mem_cons.mpr ⟨lw_p113, List.forall_mem_cons.mpr ⟨lw_p114, List.forall_mem_cons.mpr ⟨lw_p115, List.forall_mem_cons.mpr ⟨lw_p116, List.forall_mem_cons.mpr ⟨lw_p117, List.forall_mem_cons.mpr ⟨lw_p118, List.forall_mem_cons.mpr ⟨lw_p119, List.forall_mem_cons.mpr ⟨lw_p120, List.forall_mem_cons.mpr ⟨lw_p121, List.forall_mem_cons.mpr ⟨lw_p122, List.forall_mem_cons.mpr ⟨lw_p123, List.forall_mem_cons.mpr ⟨lw_p124, List.forall_mem_cons.mpr ⟨lw_p125, List.forall_mem_cons.mpr ⟨lw_p126, List.forall_mem_cons.mpr ⟨lw_p127, fun _ h => absurd h List.not_mem_nil⟩⟩⟩⟩⟩⟩⟩⟩⟩⟩⟩⟩⟩⟩⟩⟩
theorem lw_p128 : lw_okq (⟨"WordTongueModel", "isText", "(IIJJ)Z"⟩, 119) := ⟨⟨by decide +kernel, by decide +kernel⟩, List.mem_of_getElem? (i := 1710) (by decide +kernel), List.mem_of_getElem? (i := 2125) (by decide +kernel), List.mem_of_getElem? (i := 2126) (by decide +kernel)⟩
theorem lw_p129 : lw_okq (⟨"WordTongueModel", "nameOf", "(II)I"⟩, 119) := ⟨⟨by decide +kernel, by decide +kernel⟩, List.mem_of_getElem? (i := 1710) (by decide +kernel), List.mem_of_getElem? (i := 2172) (by decide +kernel), List.mem_of_getElem? (i := 2173) (by decide +kernel)⟩
theorem lw_p130 : lw_okq (⟨"WordTongueModel", "token", "(III)V"⟩, 119) := ⟨⟨by decide +kernel, by decide +kernel⟩, List.mem_of_getElem? (i := 1710) (by decide +kernel), List.mem_of_getElem? (i := 2176) (by decide +kernel), List.mem_of_getElem? (i := 2177) (by decide +kernel)⟩
theorem lw_p131 : lw_okq (⟨"WordTongueModel", "digits", "(II)I"⟩, 119) := ⟨⟨by decide +kernel, by decide +kernel⟩, List.mem_of_getElem? (i := 1710) (by decide +kernel), List.mem_of_getElem? (i := 2189) (by decide +kernel), List.mem_of_getElem? (i := 2190) (by decide +kernel)⟩
theorem lw_p132 : lw_okq (⟨"WordTongueModel", "oneC", "(II)I"⟩, 119) := ⟨⟨by decide +kernel, by decide +kernel⟩, List.mem_of_getElem? (i := 1710) (by decide +kernel), List.mem_of_getElem? (i := 2194) (by decide +kernel), List.mem_of_getElem? (i := 2195) (by decide +kernel)⟩
theorem lw_p133 : lw_okq (⟨"WordTongueModel", "stringAt", "(I)I"⟩, 119) := ⟨⟨by decide +kernel, by decide +kernel⟩, List.mem_of_getElem? (i := 1710) (by decide +kernel), List.mem_of_getElem? (i := 2198) (by decide +kernel), List.mem_of_getElem? (i := 2199) (by decide +kernel)⟩
theorem lw_p134 : lw_okq (⟨"WordTongueModel", "signAt", "(I)I"⟩, 119) := ⟨⟨by decide +kernel, by decide +kernel⟩, List.mem_of_getElem? (i := 1710) (by decide +kernel), List.mem_of_getElem? (i := 2202) (by decide +kernel), List.mem_of_getElem? (i := 2203) (by decide +kernel)⟩
theorem lw_p135 : lw_okq (⟨"WordTongueModel", "parse", "()Z"⟩, 119) := ⟨⟨by decide +kernel, by decide +kernel⟩, List.mem_of_getElem? (i := 1710) (by decide +kernel), List.mem_of_getElem? (i := 2206) (by decide +kernel), List.mem_of_getElem? (i := 2207) (by decide +kernel)⟩
theorem lw_p136 : lw_okq (⟨"WordTongueModel", "goal", "(IIII)V"⟩, 119) := ⟨⟨by decide +kernel, by decide +kernel⟩, List.mem_of_getElem? (i := 1710) (by decide +kernel), List.mem_of_getElem? (i := 2210) (by decide +kernel), List.mem_of_getElem? (i := 2211) (by decide +kernel)⟩
theorem lw_p137 : lw_okq (⟨"WordTongueModel", "reach", "(IIII)Z"⟩, 119) := ⟨⟨by decide +kernel, by decide +kernel⟩, List.mem_of_getElem? (i := 1710) (by decide +kernel), List.mem_of_getElem? (i := 2214) (by decide +kernel), List.mem_of_getElem? (i := 2215) (by decide +kernel)⟩
theorem lw_p138 : lw_okq (⟨"WordTongueModel", "reachE", "(IIII)Z"⟩, 119) := ⟨⟨by decide +kernel, by decide +kernel⟩, List.mem_of_getElem? (i := 1710) (by decide +kernel), List.mem_of_getElem? (i := 2218) (by decide +kernel), List.mem_of_getElem? (i := 2219) (by decide +kernel)⟩
theorem lw_p139 : lw_okq (⟨"WordTongueModel", "tk", "()I"⟩, 119) := ⟨⟨by decide +kernel, by decide +kernel⟩, List.mem_of_getElem? (i := 1710) (by decide +kernel), List.mem_of_getElem? (i := 2222) (by decide +kernel), List.mem_of_getElem? (i := 2223) (by decide +kernel)⟩
theorem lw_p140 : lw_okq (⟨"WordTongueModel", "deeper", "()Z"⟩, 119) := ⟨⟨by decide +kernel, by decide +kernel⟩, List.mem_of_getElem? (i := 1710) (by decide +kernel), List.mem_of_getElem? (i := 2226) (by decide +kernel), List.mem_of_getElem? (i := 2227) (by decide +kernel)⟩
theorem lw_p141 : lw_okq (⟨"WordTongueModel", "take", "(I)Z"⟩, 119) := ⟨⟨by decide +kernel, by decide +kernel⟩, List.mem_of_getElem? (i := 1710) (by decide +kernel), List.mem_of_getElem? (i := 2230) (by decide +kernel), List.mem_of_getElem? (i := 2231) (by decide +kernel)⟩
theorem lw_p142 : lw_okq (⟨"WordTongueModel", "shut", "(IIII)I"⟩, 119) := ⟨⟨by decide +kernel, by decide +kernel⟩, List.mem_of_getElem? (i := 1710) (by decide +kernel), List.mem_of_getElem? (i := 2234) (by decide +kernel), List.mem_of_getElem? (i := 2235) (by decide +kernel)⟩
theorem lw_p143 : lw_okq (⟨"WordTongueModel", "node", "(III)I"⟩, 119) := ⟨⟨by decide +kernel, by decide +kernel⟩, List.mem_of_getElem? (i := 1710) (by decide +kernel), List.mem_of_getElem? (i := 2238) (by decide +kernel), List.mem_of_getElem? (i := 2239) (by decide +kernel)⟩
def lw_privs_9 : List (MethodName × Nat) := [(⟨"WordTongueModel", "isText", "(IIJJ)Z"⟩, 119), (⟨"WordTongueModel", "nameOf", "(II)I"⟩, 119), (⟨"WordTongueModel", "token", "(III)V"⟩, 119), (⟨"WordTongueModel", "digits", "(II)I"⟩, 119), (⟨"WordTongueModel", "oneC", "(II)I"⟩, 119), (⟨"WordTongueModel", "stringAt", "(I)I"⟩, 119), (⟨"WordTongueModel", "signAt", "(I)I"⟩, 119), (⟨"WordTongueModel", "parse", "()Z"⟩, 119), (⟨"WordTongueModel", "goal", "(IIII)V"⟩, 119), (⟨"WordTongueModel", "reach", "(IIII)Z"⟩, 119), (⟨"WordTongueModel", "reachE", "(IIII)Z"⟩, 119), (⟨"WordTongueModel", "tk", "()I"⟩, 119), (⟨"WordTongueModel", "deeper", "()Z"⟩, 119), (⟨"WordTongueModel", "take", "(I)Z"⟩, 119), (⟨"WordTongueModel", "shut", "(IIII)I"⟩, 119), (⟨"WordTongueModel", "node", "(III)I"⟩, 119)]
theorem lw_r9 : ∀ q ∈ lw_privs_9, lw_okq q := List.forall_mem_cons.mpr ⟨lw_p128, List.forall_mem_cons.mpr ⟨lw_p129, List.forall_mem_cons.mpr ⟨lw_p130, List.forall_mem_cons.mpr ⟨lw_p131, List.forall_mem_cons.mpr ⟨lw_p132, List.forall_mem_cons.mpr ⟨lw_p133, List.forall_mem_cons.mpr ⟨lw_p134, List.forall_mem_cons.mpr ⟨lw_p135, List.forall_mem_cons.mpr ⟨lw_p136, List.forall_mem_cons.mpr ⟨lw_p137, List.forall_mem_cons.mpr ⟨lw_p138, List.forall_mem_cons.mpr ⟨lw_p139, List.forall_mem_cons.mpr ⟨lw_p140, List.forall_mem_cons.mpr ⟨lw_p141, List.forall_mem_cons.mpr ⟨lw_p142, List.forall_mem_cons.mpr ⟨lw_p143, fun _ h => absurd h List.not_mem_nil⟩⟩⟩⟩⟩⟩⟩⟩⟩⟩⟩⟩⟩⟩⟩⟩
theorem lw_p144 : lw_okq (⟨"WordTongueModel", "binary", "(III)V"⟩, 119) := ⟨⟨by decide +kernel, by decide +kernel⟩, List.mem_of_getElem? (i := 1710) (by decide +kernel), List.mem_of_getElem? (i := 2245) (by decide +kernel), List.mem_of_getElem? (i := 2246) (by decide +kernel)⟩
theorem lw_p145 : lw_okq (⟨"WordTongueModel", "calls", "(III)Z"⟩, 119) := ⟨⟨by decide +kernel, by decide +kernel⟩, List.mem_of_getElem? (i := 1710) (by decide +kernel), List.mem_of_getElem? (i := 2249) (by decide +kernel), List.mem_of_getElem? (i := 2250) (by decide +kernel)⟩
theorem lw_p146 : lw_okq (⟨"WordTongueModel", "primary", "(II)Z"⟩, 119) := ⟨⟨by decide +kernel, by decide +kernel⟩, List.mem_of_getElem? (i := 1710) (by decide +kernel), List.mem_of_getElem? (i := 2253) (by decide +kernel), List.mem_of_getElem? (i := 2254) (by decide +kernel)⟩
theorem lw_p147 : lw_okq (⟨"WordTongueModel", "leaf", "(III)V"⟩, 119) := ⟨⟨by decide +kernel, by decide +kernel⟩, List.mem_of_getElem? (i := 1710) (by decide +kernel), List.mem_of_getElem? (i := 2257) (by decide +kernel), List.mem_of_getElem? (i := 2258) (by decide +kernel)⟩
theorem lw_p148 : lw_okq (⟨"WordTongueModel", "openSection", "()Z"⟩, 119) := ⟨⟨by decide +kernel, by decide +kernel⟩, List.mem_of_getElem? (i := 1710) (by decide +kernel), List.mem_of_getElem? (i := 2261) (by decide +kernel), List.mem_of_getElem? (i := 2262) (by decide +kernel)⟩
theorem lw_p149 : lw_okq (⟨"WordTongueModel", "reachD", "(IIII)Z"⟩, 119) := ⟨⟨by decide +kernel, by decide +kernel⟩, List.mem_of_getElem? (i := 1710) (by decide +kernel), List.mem_of_getElem? (i := 2265) (by decide +kernel), List.mem_of_getElem? (i := 2266) (by decide +kernel)⟩
theorem lw_p150 : lw_okq (⟨"WordTongueModel", "shutSection", "()Z"⟩, 119) := ⟨⟨by decide +kernel, by decide +kernel⟩, List.mem_of_getElem? (i := 1710) (by decide +kernel), List.mem_of_getElem? (i := 2272) (by decide +kernel), List.mem_of_getElem? (i := 2273) (by decide +kernel)⟩
theorem lw_p151 : lw_okq (⟨"WordTongueModel", "reachP", "(I)Z"⟩, 119) := ⟨⟨by decide +kernel, by decide +kernel⟩, List.mem_of_getElem? (i := 1710) (by decide +kernel), List.mem_of_getElem? (i := 2276) (by decide +kernel), List.mem_of_getElem? (i := 2277) (by decide +kernel)⟩
theorem lw_p152 : lw_okq (⟨"WordTongueModel", "reachC", "(IIII)Z"⟩, 119) := ⟨⟨by decide +kernel, by decide +kernel⟩, List.mem_of_getElem? (i := 1710) (by decide +kernel), List.mem_of_getElem? (i := 2280) (by decide +kernel), List.mem_of_getElem? (i := 2281) (by decide +kernel)⟩
theorem lw_p153 : lw_okq (⟨"WordTongueModel", "command", "(III)Z"⟩, 119) := ⟨⟨by decide +kernel, by decide +kernel⟩, List.mem_of_getElem? (i := 1710) (by decide +kernel), List.mem_of_getElem? (i := 2284) (by decide +kernel), List.mem_of_getElem? (i := 2285) (by decide +kernel)⟩
theorem lw_p154 : lw_okq (⟨"WordTongueModel", "labels", "(I)V"⟩, 119) := ⟨⟨by decide +kernel, by decide +kernel⟩, List.mem_of_getElem? (i := 1710) (by decide +kernel), List.mem_of_getElem? (i := 2291) (by decide +kernel), List.mem_of_getElem? (i := 2292) (by decide +kernel)⟩
theorem lw_p155 : lw_okq (⟨"WordTongueModel", "tkNext", "()I"⟩, 119) := ⟨⟨by decide +kernel, by decide +kernel⟩, List.mem_of_getElem? (i := 1710) (by decide +kernel), List.mem_of_getElem? (i := 2295) (by decide +kernel), List.mem_of_getElem? (i := 2296) (by decide +kernel)⟩
theorem lw_p156 : lw_okq (⟨"WordTongueModel", "pairs", "(I)V"⟩, 119) := ⟨⟨by decide +kernel, by decide +kernel⟩, List.mem_of_getElem? (i := 1710) (by decide +kernel), List.mem_of_getElem? (i := 2299) (by decide +kernel), List.mem_of_getElem? (i := 2300) (by decide +kernel)⟩
theorem lw_p157 : lw_okq (⟨"WordTongueModel", "fault", "(II)V"⟩, 119) := ⟨⟨by decide +kernel, by decide +kernel⟩, List.mem_of_getElem? (i := 1710) (by decide +kernel), List.mem_of_getElem? (i := 2303) (by decide +kernel), List.mem_of_getElem? (i := 2304) (by decide +kernel)⟩
theorem lw_p158 : lw_okq (⟨"WordTongueModel", "check", "()V"⟩, 119) := ⟨⟨by decide +kernel, by decide +kernel⟩, List.mem_of_getElem? (i := 1710) (by decide +kernel), List.mem_of_getElem? (i := 2307) (by decide +kernel), List.mem_of_getElem? (i := 2308) (by decide +kernel)⟩
theorem lw_p159 : lw_okq (⟨"WordTongueModel", "library", "()V"⟩, 119) := ⟨⟨by decide +kernel, by decide +kernel⟩, List.mem_of_getElem? (i := 1710) (by decide +kernel), List.mem_of_getElem? (i := 2311) (by decide +kernel), List.mem_of_getElem? (i := 2312) (by decide +kernel)⟩
def lw_privs_10 : List (MethodName × Nat) := [(⟨"WordTongueModel", "binary", "(III)V"⟩, 119), (⟨"WordTongueModel", "calls", "(III)Z"⟩, 119), (⟨"WordTongueModel", "primary", "(II)Z"⟩, 119), (⟨"WordTongueModel", "leaf", "(III)V"⟩, 119), (⟨"WordTongueModel", "openSection", "()Z"⟩, 119), (⟨"WordTongueModel", "reachD", "(IIII)Z"⟩, 119), (⟨"WordTongueModel", "shutSection", "()Z"⟩, 119), (⟨"WordTongueModel", "reachP", "(I)Z"⟩, 119), (⟨"WordTongueModel", "reachC", "(IIII)Z"⟩, 119), (⟨"WordTongueModel", "command", "(III)Z"⟩, 119), (⟨"WordTongueModel", "labels", "(I)V"⟩, 119), (⟨"WordTongueModel", "tkNext", "()I"⟩, 119), (⟨"WordTongueModel", "pairs", "(I)V"⟩, 119), (⟨"WordTongueModel", "fault", "(II)V"⟩, 119), (⟨"WordTongueModel", "check", "()V"⟩, 119), (⟨"WordTongueModel", "library", "()V"⟩, 119)]
theorem lw_r10 : ∀ q ∈ lw_privs_10, lw_okq q := List.forall_mem_cons.mpr ⟨lw_p144, List.forall_mem_cons.mpr ⟨lw_p145, List.forall_mem_cons.mpr ⟨lw_p146, List.forall_mem_cons.mpr ⟨lw_p147, List.forall_mem_cons.mpr ⟨lw_p148, List.forall_mem_cons.mpr ⟨lw_p149, List.forall_mem_cons.mpr ⟨lw_p150, List.forall_mem_cons.mpr ⟨lw_p151, List.forall_mem_cons.mpr ⟨lw_p152, List.forall_mem_cons.mpr ⟨lw_p153, List.forall_mem_cons.mpr ⟨lw_p154, List.forall_mem_cons.mpr ⟨lw_p155, List.forall_mem_cons.mpr ⟨lw_p156, List.forall_mem_cons.mpr ⟨lw_p157, List.forall_mem_cons.mpr ⟨lw_p158, List.forall_mem_cons.mpr ⟨lw_p159, fun _ h => absurd h List.not_mem_nil⟩⟩⟩⟩⟩⟩⟩⟩⟩⟩⟩⟩⟩⟩⟩⟩
theorem lw_p160 : lw_okq (⟨"WordTongueModel", "lib", "(JJI)V"⟩, 119) := ⟨⟨by decide +kernel, by decide +kernel⟩, List.mem_of_getElem? (i := 1710) (by decide +kernel), List.mem_of_getElem? (i := 2316) (by decide +kernel), List.mem_of_getElem? (i := 2317) (by decide +kernel)⟩
theorem lw_p161 : lw_okq (⟨"WordTongueModel", "entry", "(IIIII)I"⟩, 119) := ⟨⟨by decide +kernel, by decide +kernel⟩, List.mem_of_getElem? (i := 1710) (by decide +kernel), List.mem_of_getElem? (i := 2321) (by decide +kernel), List.mem_of_getElem? (i := 2322) (by decide +kernel)⟩
theorem lw_p162 : lw_okq (⟨"WordTongueModel", "children", "(II)V"⟩, 119) := ⟨⟨by decide +kernel, by decide +kernel⟩, List.mem_of_getElem? (i := 1710) (by decide +kernel), List.mem_of_getElem? (i := 2345) (by decide +kernel), List.mem_of_getElem? (i := 2346) (by decide +kernel)⟩
theorem lw_p163 : lw_okq (⟨"WordTongueModel", "task", "(III)V"⟩, 119) := ⟨⟨by decide +kernel, by decide +kernel⟩, List.mem_of_getElem? (i := 1710) (by decide +kernel), List.mem_of_getElem? (i := 2349) (by decide +kernel), List.mem_of_getElem? (i := 2350) (by decide +kernel)⟩
theorem lw_p164 : lw_okq (⟨"WordTongueModel", "turn", "(I)V"⟩, 119) := ⟨⟨by decide +kernel, by decide +kernel⟩, List.mem_of_getElem? (i := 1710) (by decide +kernel), List.mem_of_getElem? (i := 2353) (by decide +kernel), List.mem_of_getElem? (i := 2354) (by decide +kernel)⟩
theorem lw_p165 : lw_okq (⟨"WordTongueModel", "go", "(III)V"⟩, 119) := ⟨⟨by decide +kernel, by decide +kernel⟩, List.mem_of_getElem? (i := 1710) (by decide +kernel), List.mem_of_getElem? (i := 2357) (by decide +kernel), List.mem_of_getElem? (i := 2358) (by decide +kernel)⟩
theorem lw_p166 : lw_okq (⟨"WordTongueModel", "declaration", "(I)V"⟩, 119) := ⟨⟨by decide +kernel, by decide +kernel⟩, List.mem_of_getElem? (i := 1710) (by decide +kernel), List.mem_of_getElem? (i := 2361) (by decide +kernel), List.mem_of_getElem? (i := 2362) (by decide +kernel)⟩
theorem lw_p167 : lw_okq (⟨"WordTongueModel", "letRoutines", "(I)V"⟩, 119) := ⟨⟨by decide +kernel, by decide +kernel⟩, List.mem_of_getElem? (i := 1710) (by decide +kernel), List.mem_of_getElem? (i := 2365) (by decide +kernel), List.mem_of_getElem? (i := 2366) (by decide +kernel)⟩
theorem lw_p168 : lw_okq (⟨"WordTongueModel", "nameToken", "(I)I"⟩, 119) := ⟨⟨by decide +kernel, by decide +kernel⟩, List.mem_of_getElem? (i := 1710) (by decide +kernel), List.mem_of_getElem? (i := 2369) (by decide +kernel), List.mem_of_getElem? (i := 2370) (by decide +kernel)⟩
theorem lw_p169 : lw_okq (⟨"WordTongueModel", "means", "(I)I"⟩, 119) := ⟨⟨by decide +kernel, by decide +kernel⟩, List.mem_of_getElem? (i := 1710) (by decide +kernel), List.mem_of_getElem? (i := 2373) (by decide +kernel), List.mem_of_getElem? (i := 2374) (by decide +kernel)⟩
theorem lw_p170 : lw_okq (⟨"WordTongueModel", "place", "(I)I"⟩, 119) := ⟨⟨by decide +kernel, by decide +kernel⟩, List.mem_of_getElem? (i := 1710) (by decide +kernel), List.mem_of_getElem? (i := 2377) (by decide +kernel), List.mem_of_getElem? (i := 2378) (by decide +kernel)⟩
theorem lw_p171 : lw_okq (⟨"WordTongueModel", "declare", "(IIIIII)I"⟩, 119) := ⟨⟨by decide +kernel, by decide +kernel⟩, List.mem_of_getElem? (i := 1710) (by decide +kernel), List.mem_of_getElem? (i := 2381) (by decide +kernel), List.mem_of_getElem? (i := 2382) (by decide +kernel)⟩
theorem lw_p172 : lw_okq (⟨"WordTongueModel", "tokenOfTwice", "(II)I"⟩, 119) := ⟨⟨by decide +kernel, by decide +kernel⟩, List.mem_of_getElem? (i := 1710) (by decide +kernel), List.mem_of_getElem? (i := 2385) (by decide +kernel), List.mem_of_getElem? (i := 2386) (by decide +kernel)⟩
theorem lw_p173 : lw_okq (⟨"WordTongueModel", "constant", "(I)V"⟩, 119) := ⟨⟨by decide +kernel, by decide +kernel⟩, List.mem_of_getElem? (i := 1710) (by decide +kernel), List.mem_of_getElem? (i := 2389) (by decide +kernel), List.mem_of_getElem? (i := 2390) (by decide +kernel)⟩
theorem lw_p174 : lw_okq (⟨"WordTongueModel", "isK", "(I)Z"⟩, 119) := ⟨⟨by decide +kernel, by decide +kernel⟩, List.mem_of_getElem? (i := 1710) (by decide +kernel), List.mem_of_getElem? (i := 2393) (by decide +kernel), List.mem_of_getElem? (i := 2394) (by decide +kernel)⟩
theorem lw_p175 : lw_okq (⟨"WordTongueModel", "isKName", "(I)Z"⟩, 119) := ⟨⟨by decide +kernel, by decide +kernel⟩, List.mem_of_getElem? (i := 1710) (by decide +kernel), List.mem_of_getElem? (i := 2397) (by decide +kernel), List.mem_of_getElem? (i := 2398) (by decide +kernel)⟩
def lw_privs_11 : List (MethodName × Nat) := [(⟨"WordTongueModel", "lib", "(JJI)V"⟩, 119), (⟨"WordTongueModel", "entry", "(IIIII)I"⟩, 119), (⟨"WordTongueModel", "children", "(II)V"⟩, 119), (⟨"WordTongueModel", "task", "(III)V"⟩, 119), (⟨"WordTongueModel", "turn", "(I)V"⟩, 119), (⟨"WordTongueModel", "go", "(III)V"⟩, 119), (⟨"WordTongueModel", "declaration", "(I)V"⟩, 119), (⟨"WordTongueModel", "letRoutines", "(I)V"⟩, 119), (⟨"WordTongueModel", "nameToken", "(I)I"⟩, 119), (⟨"WordTongueModel", "means", "(I)I"⟩, 119), (⟨"WordTongueModel", "place", "(I)I"⟩, 119), (⟨"WordTongueModel", "declare", "(IIIIII)I"⟩, 119), (⟨"WordTongueModel", "tokenOfTwice", "(II)I"⟩, 119), (⟨"WordTongueModel", "constant", "(I)V"⟩, 119), (⟨"WordTongueModel", "isK", "(I)Z"⟩, 119), (⟨"WordTongueModel", "isKName", "(I)Z"⟩, 119)]
theorem lw_r11 : ∀ q ∈ lw_privs_11, lw_okq q := List.forall_mem_cons.mpr ⟨lw_p160, List.forall_mem_cons.mpr ⟨lw_p161, List.forall_mem_cons.mpr ⟨lw_p162, List.forall_mem_cons.mpr ⟨lw_p163, List.forall_mem_cons.mpr ⟨lw_p164, List.forall_mem_cons.mpr ⟨lw_p165, List.forall_mem_cons.mpr ⟨lw_p166, List.forall_mem_cons.mpr ⟨lw_p167, List.forall_mem_cons.mpr ⟨lw_p168, List.forall_mem_cons.mpr ⟨lw_p169, List.forall_mem_cons.mpr ⟨lw_p170, List.forall_mem_cons.mpr ⟨lw_p171, List.forall_mem_cons.mpr ⟨lw_p172, List.forall_mem_cons.mpr ⟨lw_p173, List.forall_mem_cons.mpr ⟨lw_p174, List.forall_mem_cons.mpr ⟨lw_p175, fun _ h => absurd h List.not_mem_nil⟩⟩⟩⟩⟩⟩⟩⟩⟩⟩⟩⟩⟩⟩⟩⟩
theorem lw_p176 : lw_okq (⟨"WordTongueModel", "later", "(II)I"⟩, 119) := ⟨⟨by decide +kernel, by decide +kernel⟩, List.mem_of_getElem? (i := 1710) (by decide +kernel), List.mem_of_getElem? (i := 2401) (by decide +kernel), List.mem_of_getElem? (i := 2402) (by decide +kernel)⟩
theorem lw_p177 : lw_okq (⟨"WordTongueModel", "init", "(II)V"⟩, 119) := ⟨⟨by decide +kernel, by decide +kernel⟩, List.mem_of_getElem? (i := 1710) (by decide +kernel), List.mem_of_getElem? (i := 2423) (by decide +kernel), List.mem_of_getElem? (i := 2424) (by decide +kernel)⟩
theorem lw_p178 : lw_okq (⟨"WordTongueModel", "commandOf", "(I)V"⟩, 119) := ⟨⟨by decide +kernel, by decide +kernel⟩, List.mem_of_getElem? (i := 1710) (by decide +kernel), List.mem_of_getElem? (i := 2427) (by decide +kernel), List.mem_of_getElem? (i := 2428) (by decide +kernel)⟩
theorem lw_p179 : lw_okq (⟨"WordTongueModel", "beginBlock", "()V"⟩, 119) := ⟨⟨by decide +kernel, by decide +kernel⟩, List.mem_of_getElem? (i := 1710) (by decide +kernel), List.mem_of_getElem? (i := 2431) (by decide +kernel), List.mem_of_getElem? (i := 2432) (by decide +kernel)⟩
theorem lw_p180 : lw_okq (⟨"WordTongueModel", "put", "(I)V"⟩, 119) := ⟨⟨by decide +kernel, by decide +kernel⟩, List.mem_of_getElem? (i := 1710) (by decide +kernel), List.mem_of_getElem? (i := 2435) (by decide +kernel), List.mem_of_getElem? (i := 2436) (by decide +kernel)⟩
theorem lw_p181 : lw_okq (⟨"WordTongueModel", "labelsOf", "(I)V"⟩, 119) := ⟨⟨by decide +kernel, by decide +kernel⟩, List.mem_of_getElem? (i := 1710) (by decide +kernel), List.mem_of_getElem? (i := 2439) (by decide +kernel), List.mem_of_getElem? (i := 2440) (by decide +kernel)⟩
theorem lw_p182 : lw_okq (⟨"WordTongueModel", "goesTo", "(I)V"⟩, 119) := ⟨⟨by decide +kernel, by decide +kernel⟩, List.mem_of_getElem? (i := 1710) (by decide +kernel), List.mem_of_getElem? (i := 2443) (by decide +kernel), List.mem_of_getElem? (i := 2444) (by decide +kernel)⟩
theorem lw_p183 : lw_okq (⟨"WordTongueModel", "expressionOf", "(I)V"⟩, 119) := ⟨⟨by decide +kernel, by decide +kernel⟩, List.mem_of_getElem? (i := 1710) (by decide +kernel), List.mem_of_getElem? (i := 2447) (by decide +kernel), List.mem_of_getElem? (i := 2448) (by decide +kernel)⟩
theorem lw_p184 : lw_okq (⟨"WordTongueModel", "named", "(I)I"⟩, 119) := ⟨⟨by decide +kernel, by decide +kernel⟩, List.mem_of_getElem? (i := 1710) (by decide +kernel), List.mem_of_getElem? (i := 2451) (by decide +kernel), List.mem_of_getElem? (i := 2452) (by decide +kernel)⟩
theorem lw_p185 : lw_okq (⟨"WordTongueModel", "string", "(I)V"⟩, 119) := ⟨⟨by decide +kernel, by decide +kernel⟩, List.mem_of_getElem? (i := 1710) (by decide +kernel), List.mem_of_getElem? (i := 2455) (by decide +kernel), List.mem_of_getElem? (i := 2456) (by decide +kernel)⟩
theorem lw_p186 : lw_okq (⟨"WordTongueModel", "placeOf", "(IZ)V"⟩, 119) := ⟨⟨by decide +kernel, by decide +kernel⟩, List.mem_of_getElem? (i := 1710) (by decide +kernel), List.mem_of_getElem? (i := 2459) (by decide +kernel), List.mem_of_getElem? (i := 2460) (by decide +kernel)⟩
theorem lw_p187 : lw_okq (⟨"WordTongueModel", "routineOf", "(II)V"⟩, 119) := ⟨⟨by decide +kernel, by decide +kernel⟩, List.mem_of_getElem? (i := 1710) (by decide +kernel), List.mem_of_getElem? (i := 2463) (by decide +kernel), List.mem_of_getElem? (i := 2464) (by decide +kernel)⟩
theorem lw_p188 : lw_okq (⟨"WordTongueModel", "routineEnds", "(I)V"⟩, 119) := ⟨⟨by decide +kernel, by decide +kernel⟩, List.mem_of_getElem? (i := 1710) (by decide +kernel), List.mem_of_getElem? (i := 2468) (by decide +kernel), List.mem_of_getElem? (i := 2469) (by decide +kernel)⟩
theorem lw_p189 : lw_okq (⟨"WordTongueModel", "pull", "()I"⟩, 119) := ⟨⟨by decide +kernel, by decide +kernel⟩, List.mem_of_getElem? (i := 1710) (by decide +kernel), List.mem_of_getElem? (i := 2472) (by decide +kernel), List.mem_of_getElem? (i := 2473) (by decide +kernel)⟩
theorem lw_p190 : lw_okq (⟨"WordTongueModel", "varsEnd", "(I)V"⟩, 119) := ⟨⟨by decide +kernel, by decide +kernel⟩, List.mem_of_getElem? (i := 1710) (by decide +kernel), List.mem_of_getElem? (i := 2476) (by decide +kernel), List.mem_of_getElem? (i := 2477) (by decide +kernel)⟩
theorem lw_p191 : lw_okq (⟨"WordTongueModel", "uses", "(I)V"⟩, 119) := ⟨⟨by decide +kernel, by decide +kernel⟩, List.mem_of_getElem? (i := 1710) (by decide +kernel), List.mem_of_getElem? (i := 2480) (by decide +kernel), List.mem_of_getElem? (i := 2481) (by decide +kernel)⟩
def lw_privs_12 : List (MethodName × Nat) := [(⟨"WordTongueModel", "later", "(II)I"⟩, 119), (⟨"WordTongueModel", "init", "(II)V"⟩, 119), (⟨"WordTongueModel", "commandOf", "(I)V"⟩, 119), (⟨"WordTongueModel", "beginBlock", "()V"⟩, 119), (⟨"WordTongueModel", "put", "(I)V"⟩, 119), (⟨"WordTongueModel", "labelsOf", "(I)V"⟩, 119), (⟨"WordTongueModel", "goesTo", "(I)V"⟩, 119), (⟨"WordTongueModel", "expressionOf", "(I)V"⟩, 119), (⟨"WordTongueModel", "named", "(I)I"⟩, 119), (⟨"WordTongueModel", "string", "(I)V"⟩, 119), (⟨"WordTongueModel", "placeOf", "(IZ)V"⟩, 119), (⟨"WordTongueModel", "routineOf", "(II)V"⟩, 119), (⟨"WordTongueModel", "routineEnds", "(I)V"⟩, 119), (⟨"WordTongueModel", "pull", "()I"⟩, 119), (⟨"WordTongueModel", "varsEnd", "(I)V"⟩, 119), (⟨"WordTongueModel", "uses", "(I)V"⟩, 119)]
theorem lw_r12 : ∀ q ∈ lw_privs_12, lw_okq q := List.forall_mem_cons.mpr ⟨lw_p176, List.forall_mem_cons.mpr ⟨lw_p177, List.forall_mem_cons.mpr ⟨lw_p178, List.forall_mem_cons.mpr ⟨lw_p179, List.forall_mem_cons.mpr ⟨lw_p180, List.forall_mem_cons.mpr ⟨lw_p181, List.forall_mem_cons.mpr ⟨lw_p182, List.forall_mem_cons.mpr ⟨lw_p183, List.forall_mem_cons.mpr ⟨lw_p184, List.forall_mem_cons.mpr ⟨lw_p185, List.forall_mem_cons.mpr ⟨lw_p186, List.forall_mem_cons.mpr ⟨lw_p187, List.forall_mem_cons.mpr ⟨lw_p188, List.forall_mem_cons.mpr ⟨lw_p189, List.forall_mem_cons.mpr ⟨lw_p190, List.forall_mem_cons.mpr ⟨lw_p191, fun _ h => absurd h List.not_mem_nil⟩⟩⟩⟩⟩⟩⟩⟩⟩⟩⟩⟩⟩⟩⟩⟩
theorem lw_p192 : lw_okq (⟨"WordTongueModel", "blockEnds", "(I)V"⟩, 119) := ⟨⟨by decide +kernel, by decide +kernel⟩, List.mem_of_getElem? (i := 1710) (by decide +kernel), List.mem_of_getElem? (i := 2485) (by decide +kernel), List.mem_of_getElem? (i := 2486) (by decide +kernel)⟩
theorem lw_p193 : lw_okq (⟨"WordTongueModel", "forName", "(I)V"⟩, 119) := ⟨⟨by decide +kernel, by decide +kernel⟩, List.mem_of_getElem? (i := 1710) (by decide +kernel), List.mem_of_getElem? (i := 2489) (by decide +kernel), List.mem_of_getElem? (i := 2490) (by decide +kernel)⟩
theorem lw_p194 : lw_okq (⟨"WordTongueModel", "switchOf", "(I)V"⟩, 119) := ⟨⟨by decide +kernel, by decide +kernel⟩, List.mem_of_getElem? (i := 1710) (by decide +kernel), List.mem_of_getElem? (i := 2493) (by decide +kernel), List.mem_of_getElem? (i := 2494) (by decide +kernel)⟩
theorem lw_p195 : lw_okq (⟨"WordTongueModel", "isTwice", "(II)Z"⟩, 119) := ⟨⟨by decide +kernel, by decide +kernel⟩, List.mem_of_getElem? (i := 1710) (by decide +kernel), List.mem_of_getElem? (i := 2497) (by decide +kernel), List.mem_of_getElem? (i := 2498) (by decide +kernel)⟩
theorem lw_p196 : lw_okq (⟨"WordTongueModel", "part", "(I)V"⟩, 119) := ⟨⟨by decide +kernel, by decide +kernel⟩, List.mem_of_getElem? (i := 1710) (by decide +kernel), List.mem_of_getElem? (i := 2501) (by decide +kernel), List.mem_of_getElem? (i := 2502) (by decide +kernel)⟩
theorem lw_p197 : lw_okq (⟨"WordTongueModel", "rowsOf", "(I)V"⟩, 119) := ⟨⟨by decide +kernel, by decide +kernel⟩, List.mem_of_getElem? (i := 1710) (by decide +kernel), List.mem_of_getElem? (i := 2518) (by decide +kernel), List.mem_of_getElem? (i := 2519) (by decide +kernel)⟩
theorem lw_p198 : lw_okq (⟨"WordTongueModel", "enter", "(III)V"⟩, 119) := ⟨⟨by decide +kernel, by decide +kernel⟩, List.mem_of_getElem? (i := 1710) (by decide +kernel), List.mem_of_getElem? (i := 2530) (by decide +kernel), List.mem_of_getElem? (i := 2531) (by decide +kernel)⟩
theorem lw_p199 : lw_okq (⟨"WordTongueModel", "burns", "()Z"⟩, 119) := ⟨⟨by decide +kernel, by decide +kernel⟩, List.mem_of_getElem? (i := 1710) (by decide +kernel), List.mem_of_getElem? (i := 2534) (by decide +kernel), List.mem_of_getElem? (i := 2535) (by decide +kernel)⟩
theorem lw_p200 : lw_okq (⟨"WordTongueModel", "err", "(I)V"⟩, 119) := ⟨⟨by decide +kernel, by decide +kernel⟩, List.mem_of_getElem? (i := 1710) (by decide +kernel), List.mem_of_getElem? (i := 2538) (by decide +kernel), List.mem_of_getElem? (i := 2539) (by decide +kernel)⟩
theorem lw_p201 : lw_okq (⟨"WordTongueModel", "limit", "()I"⟩, 119) := ⟨⟨by decide +kernel, by decide +kernel⟩, List.mem_of_getElem? (i := 1710) (by decide +kernel), List.mem_of_getElem? (i := 2542) (by decide +kernel), List.mem_of_getElem? (i := 2543) (by decide +kernel)⟩
theorem lw_p202 : lw_okq (⟨"WordTongueModel", "todoTask", "(III)V"⟩, 119) := ⟨⟨by decide +kernel, by decide +kernel⟩, List.mem_of_getElem? (i := 1710) (by decide +kernel), List.mem_of_getElem? (i := 2546) (by decide +kernel), List.mem_of_getElem? (i := 2547) (by decide +kernel)⟩
theorem lw_p203 : lw_okq (⟨"WordTongueModel", "doNext", "()V"⟩, 119) := ⟨⟨by decide +kernel, by decide +kernel⟩, List.mem_of_getElem? (i := 1710) (by decide +kernel), List.mem_of_getElem? (i := 2553) (by decide +kernel), List.mem_of_getElem? (i := 2554) (by decide +kernel)⟩
theorem lw_p204 : lw_okq (⟨"WordTongueModel", "evaluate", "(I)V"⟩, 119) := ⟨⟨by decide +kernel, by decide +kernel⟩, List.mem_of_getElem? (i := 1710) (by decide +kernel), List.mem_of_getElem? (i := 2557) (by decide +kernel), List.mem_of_getElem? (i := 2558) (by decide +kernel)⟩
theorem lw_p205 : lw_okq (⟨"WordTongueModel", "push", "(I)V"⟩, 119) := ⟨⟨by decide +kernel, by decide +kernel⟩, List.mem_of_getElem? (i := 1710) (by decide +kernel), List.mem_of_getElem? (i := 2561) (by decide +kernel), List.mem_of_getElem? (i := 2562) (by decide +kernel)⟩
theorem lw_p206 : lw_okq (⟨"WordTongueModel", "wordOf", "(I)I"⟩, 119) := ⟨⟨by decide +kernel, by decide +kernel⟩, List.mem_of_getElem? (i := 1710) (by decide +kernel), List.mem_of_getElem? (i := 2565) (by decide +kernel), List.mem_of_getElem? (i := 2566) (by decide +kernel)⟩
theorem lw_p207 : lw_okq (⟨"WordTongueModel", "address", "(I)V"⟩, 119) := ⟨⟨by decide +kernel, by decide +kernel⟩, List.mem_of_getElem? (i := 1710) (by decide +kernel), List.mem_of_getElem? (i := 2569) (by decide +kernel), List.mem_of_getElem? (i := 2570) (by decide +kernel)⟩
def lw_privs_13 : List (MethodName × Nat) := [(⟨"WordTongueModel", "blockEnds", "(I)V"⟩, 119), (⟨"WordTongueModel", "forName", "(I)V"⟩, 119), (⟨"WordTongueModel", "switchOf", "(I)V"⟩, 119), (⟨"WordTongueModel", "isTwice", "(II)Z"⟩, 119), (⟨"WordTongueModel", "part", "(I)V"⟩, 119), (⟨"WordTongueModel", "rowsOf", "(I)V"⟩, 119), (⟨"WordTongueModel", "enter", "(III)V"⟩, 119), (⟨"WordTongueModel", "burns", "()Z"⟩, 119), (⟨"WordTongueModel", "err", "(I)V"⟩, 119), (⟨"WordTongueModel", "limit", "()I"⟩, 119), (⟨"WordTongueModel", "todoTask", "(III)V"⟩, 119), (⟨"WordTongueModel", "doNext", "()V"⟩, 119), (⟨"WordTongueModel", "evaluate", "(I)V"⟩, 119), (⟨"WordTongueModel", "push", "(I)V"⟩, 119), (⟨"WordTongueModel", "wordOf", "(I)I"⟩, 119), (⟨"WordTongueModel", "address", "(I)V"⟩, 119)]
theorem lw_r13 : ∀ q ∈ lw_privs_13, lw_okq q := List.forall_mem_cons.mpr ⟨lw_p192, List.forall_mem_cons.mpr ⟨lw_p193, List.forall_mem_cons.mpr ⟨lw_p194, List.forall_mem_cons.mpr ⟨lw_p195, List.forall_mem_cons.mpr ⟨lw_p196, List.forall_mem_cons.mpr ⟨lw_p197, List.forall_mem_cons.mpr ⟨lw_p198, List.forall_mem_cons.mpr ⟨lw_p199, List.forall_mem_cons.mpr ⟨lw_p200, List.forall_mem_cons.mpr ⟨lw_p201, List.forall_mem_cons.mpr ⟨lw_p202, List.forall_mem_cons.mpr ⟨lw_p203, List.forall_mem_cons.mpr ⟨lw_p204, List.forall_mem_cons.mpr ⟨lw_p205, List.forall_mem_cons.mpr ⟨lw_p206, List.forall_mem_cons.mpr ⟨lw_p207, fun _ h => absurd h List.not_mem_nil⟩⟩⟩⟩⟩⟩⟩⟩⟩⟩⟩⟩⟩⟩⟩⟩
theorem lw_p208 : lw_okq (⟨"WordTongueModel", "turnTodo", "(I)V"⟩, 119) := ⟨⟨by decide +kernel, by decide +kernel⟩, List.mem_of_getElem? (i := 1710) (by decide +kernel), List.mem_of_getElem? (i := 2573) (by decide +kernel), List.mem_of_getElem? (i := 2574) (by decide +kernel)⟩
theorem lw_p209 : lw_okq (⟨"WordTongueModel", "bin", "(I)V"⟩, 119) := ⟨⟨by decide +kernel, by decide +kernel⟩, List.mem_of_getElem? (i := 1710) (by decide +kernel), List.mem_of_getElem? (i := 2577) (by decide +kernel), List.mem_of_getElem? (i := 2578) (by decide +kernel)⟩
theorem lw_p210 : lw_okq (⟨"WordTongueModel", "pop", "()I"⟩, 119) := ⟨⟨by decide +kernel, by decide +kernel⟩, List.mem_of_getElem? (i := 1710) (by decide +kernel), List.mem_of_getElem? (i := 2581) (by decide +kernel), List.mem_of_getElem? (i := 2582) (by decide +kernel)⟩
theorem lw_p211 : lw_okq (⟨"WordTongueModel", "read", "(J)I"⟩, 119) := ⟨⟨by decide +kernel, by decide +kernel⟩, List.mem_of_getElem? (i := 1710) (by decide +kernel), List.mem_of_getElem? (i := 2585) (by decide +kernel), List.mem_of_getElem? (i := 2586) (by decide +kernel)⟩
theorem lw_p212 : lw_okq (⟨"WordTongueModel", "rel", "(II)V"⟩, 119) := ⟨⟨by decide +kernel, by decide +kernel⟩, List.mem_of_getElem? (i := 1710) (by decide +kernel), List.mem_of_getElem? (i := 2589) (by decide +kernel), List.mem_of_getElem? (i := 2590) (by decide +kernel)⟩
theorem lw_p213 : lw_okq (⟨"WordTongueModel", "call", "(II)V"⟩, 119) := ⟨⟨by decide +kernel, by decide +kernel⟩, List.mem_of_getElem? (i := 1710) (by decide +kernel), List.mem_of_getElem? (i := 2593) (by decide +kernel), List.mem_of_getElem? (i := 2594) (by decide +kernel)⟩
theorem lw_p214 : lw_okq (⟨"WordTongueModel", "libraryCall", "(III)V"⟩, 119) := ⟨⟨by decide +kernel, by decide +kernel⟩, List.mem_of_getElem? (i := 1710) (by decide +kernel), List.mem_of_getElem? (i := 2598) (by decide +kernel), List.mem_of_getElem? (i := 2599) (by decide +kernel)⟩
theorem lw_p215 : lw_okq (⟨"WordTongueModel", "arg", "(II)I"⟩, 119) := ⟨⟨by decide +kernel, by decide +kernel⟩, List.mem_of_getElem? (i := 1710) (by decide +kernel), List.mem_of_getElem? (i := 2602) (by decide +kernel), List.mem_of_getElem? (i := 2603) (by decide +kernel)⟩
theorem lw_p216 : lw_okq (⟨"WordTongueModel", "decimal", "(II)V"⟩, 119) := ⟨⟨by decide +kernel, by decide +kernel⟩, List.mem_of_getElem? (i := 1710) (by decide +kernel), List.mem_of_getElem? (i := 2606) (by decide +kernel), List.mem_of_getElem? (i := 2607) (by decide +kernel)⟩
theorem lw_p217 : lw_okq (⟨"WordTongueModel", "outByte", "(I)V"⟩, 119) := ⟨⟨by decide +kernel, by decide +kernel⟩, List.mem_of_getElem? (i := 1710) (by decide +kernel), List.mem_of_getElem? (i := 2612) (by decide +kernel), List.mem_of_getElem? (i := 2613) (by decide +kernel)⟩
theorem lw_p218 : lw_okq (⟨"WordTongueModel", "writeString", "(I)V"⟩, 119) := ⟨⟨by decide +kernel, by decide +kernel⟩, List.mem_of_getElem? (i := 1710) (by decide +kernel), List.mem_of_getElem? (i := 2616) (by decide +kernel), List.mem_of_getElem? (i := 2617) (by decide +kernel)⟩
theorem lw_p219 : lw_okq (⟨"WordTongueModel", "nextByte", "()I"⟩, 119) := ⟨⟨by decide +kernel, by decide +kernel⟩, List.mem_of_getElem? (i := 1710) (by decide +kernel), List.mem_of_getElem? (i := 2620) (by decide +kernel), List.mem_of_getElem? (i := 2621) (by decide +kernel)⟩
theorem lw_p220 : lw_okq (⟨"WordTongueModel", "getVector", "(I)I"⟩, 119) := ⟨⟨by decide +kernel, by decide +kernel⟩, List.mem_of_getElem? (i := 1710) (by decide +kernel), List.mem_of_getElem? (i := 2624) (by decide +kernel), List.mem_of_getElem? (i := 2625) (by decide +kernel)⟩
theorem lw_p221 : lw_okq (⟨"WordTongueModel", "layVector", "(IJJI)I"⟩, 119) := ⟨⟨by decide +kernel, by decide +kernel⟩, List.mem_of_getElem? (i := 1710) (by decide +kernel), List.mem_of_getElem? (i := 2628) (by decide +kernel), List.mem_of_getElem? (i := 2629) (by decide +kernel)⟩
theorem lw_p222 : lw_okq (⟨"WordTongueModel", "freeVector", "(I)V"⟩, 119) := ⟨⟨by decide +kernel, by decide +kernel⟩, List.mem_of_getElem? (i := 1710) (by decide +kernel), List.mem_of_getElem? (i := 2632) (by decide +kernel), List.mem_of_getElem? (i := 2633) (by decide +kernel)⟩
theorem lw_p223 : lw_okq (⟨"WordTongueModel", "readNumber", "()I"⟩, 119) := ⟨⟨by decide +kernel, by decide +kernel⟩, List.mem_of_getElem? (i := 1710) (by decide +kernel), List.mem_of_getElem? (i := 2636) (by decide +kernel), List.mem_of_getElem? (i := 2637) (by decide +kernel)⟩
def lw_privs_14 : List (MethodName × Nat) := [(⟨"WordTongueModel", "turnTodo", "(I)V"⟩, 119), (⟨"WordTongueModel", "bin", "(I)V"⟩, 119), (⟨"WordTongueModel", "pop", "()I"⟩, 119), (⟨"WordTongueModel", "read", "(J)I"⟩, 119), (⟨"WordTongueModel", "rel", "(II)V"⟩, 119), (⟨"WordTongueModel", "call", "(II)V"⟩, 119), (⟨"WordTongueModel", "libraryCall", "(III)V"⟩, 119), (⟨"WordTongueModel", "arg", "(II)I"⟩, 119), (⟨"WordTongueModel", "decimal", "(II)V"⟩, 119), (⟨"WordTongueModel", "outByte", "(I)V"⟩, 119), (⟨"WordTongueModel", "writeString", "(I)V"⟩, 119), (⟨"WordTongueModel", "nextByte", "()I"⟩, 119), (⟨"WordTongueModel", "getVector", "(I)I"⟩, 119), (⟨"WordTongueModel", "layVector", "(IJJI)I"⟩, 119), (⟨"WordTongueModel", "freeVector", "(I)V"⟩, 119), (⟨"WordTongueModel", "readNumber", "()I"⟩, 119)]
theorem lw_r14 : ∀ q ∈ lw_privs_14, lw_okq q := List.forall_mem_cons.mpr ⟨lw_p208, List.forall_mem_cons.mpr ⟨lw_p209, List.forall_mem_cons.mpr ⟨lw_p210, List.forall_mem_cons.mpr ⟨lw_p211, List.forall_mem_cons.mpr ⟨lw_p212, List.forall_mem_cons.mpr ⟨lw_p213, List.forall_mem_cons.mpr ⟨lw_p214, List.forall_mem_cons.mpr ⟨lw_p215, List.forall_mem_cons.mpr ⟨lw_p216, List.forall_mem_cons.mpr ⟨lw_p217, List.forall_mem_cons.mpr ⟨lw_p218, List.forall_mem_cons.mpr ⟨lw_p219, List.forall_mem_cons.mpr ⟨lw_p220, List.forall_mem_cons.mpr ⟨lw_p221, List.forall_mem_cons.mpr ⟨lw_p222, List.forall_mem_cons.mpr ⟨lw_p223, fun _ h => absurd h List.not_mem_nil⟩⟩⟩⟩⟩⟩⟩⟩⟩⟩⟩⟩⟩⟩⟩⟩
theorem lw_p224 : lw_okq (⟨"WordTongueModel", "peek", "()I"⟩, 119) := ⟨⟨by decide +kernel, by decide +kernel⟩, List.mem_of_getElem? (i := 1710) (by decide +kernel), List.mem_of_getElem? (i := 2640) (by decide +kernel), List.mem_of_getElem? (i := 2641) (by decide +kernel)⟩
theorem lw_p225 : lw_okq (⟨"WordTongueModel", "toVector", "(III)V"⟩, 119) := ⟨⟨by decide +kernel, by decide +kernel⟩, List.mem_of_getElem? (i := 1710) (by decide +kernel), List.mem_of_getElem? (i := 2644) (by decide +kernel), List.mem_of_getElem? (i := 2645) (by decide +kernel)⟩
theorem lw_p226 : lw_okq (⟨"WordTongueModel", "perform", "(I)V"⟩, 119) := ⟨⟨by decide +kernel, by decide +kernel⟩, List.mem_of_getElem? (i := 1710) (by decide +kernel), List.mem_of_getElem? (i := 2648) (by decide +kernel), List.mem_of_getElem? (i := 2649) (by decide +kernel)⟩
theorem lw_p227 : lw_okq (⟨"WordTongueModel", "assign", "(II)V"⟩, 119) := ⟨⟨by decide +kernel, by decide +kernel⟩, List.mem_of_getElem? (i := 1710) (by decide +kernel), List.mem_of_getElem? (i := 2652) (by decide +kernel), List.mem_of_getElem? (i := 2653) (by decide +kernel)⟩
theorem lw_p228 : lw_okq (⟨"WordTongueModel", "stores", "(I)V"⟩, 119) := ⟨⟨by decide +kernel, by decide +kernel⟩, List.mem_of_getElem? (i := 1710) (by decide +kernel), List.mem_of_getElem? (i := 2656) (by decide +kernel), List.mem_of_getElem? (i := 2657) (by decide +kernel)⟩
theorem lw_p229 : lw_okq (⟨"WordTongueModel", "write", "(JI)V"⟩, 119) := ⟨⟨by decide +kernel, by decide +kernel⟩, List.mem_of_getElem? (i := 1710) (by decide +kernel), List.mem_of_getElem? (i := 2660) (by decide +kernel), List.mem_of_getElem? (i := 2661) (by decide +kernel)⟩
theorem lw_p230 : lw_okq (⟨"WordTongueModel", "loop", "(II)V"⟩, 119) := ⟨⟨by decide +kernel, by decide +kernel⟩, List.mem_of_getElem? (i := 1710) (by decide +kernel), List.mem_of_getElem? (i := 2664) (by decide +kernel), List.mem_of_getElem? (i := 2665) (by decide +kernel)⟩
theorem lw_p231 : lw_okq (⟨"WordTongueModel", "isStep", "(III)Z"⟩, 119) := ⟨⟨by decide +kernel, by decide +kernel⟩, List.mem_of_getElem? (i := 1710) (by decide +kernel), List.mem_of_getElem? (i := 2668) (by decide +kernel), List.mem_of_getElem? (i := 2669) (by decide +kernel)⟩
theorem lw_p232 : lw_okq (⟨"WordTongueModel", "asked", "(I)V"⟩, 119) := ⟨⟨by decide +kernel, by decide +kernel⟩, List.mem_of_getElem? (i := 1710) (by decide +kernel), List.mem_of_getElem? (i := 2672) (by decide +kernel), List.mem_of_getElem? (i := 2673) (by decide +kernel)⟩
theorem lw_p233 : lw_okq (⟨"WordTongueModel", "section", "(II)V"⟩, 119) := ⟨⟨by decide +kernel, by decide +kernel⟩, List.mem_of_getElem? (i := 1710) (by decide +kernel), List.mem_of_getElem? (i := 2676) (by decide +kernel), List.mem_of_getElem? (i := 2677) (by decide +kernel)⟩
theorem lw_p234 : lw_okq (⟨"WordTongueModel", "returns", "(II)V"⟩, 119) := ⟨⟨by decide +kernel, by decide +kernel⟩, List.mem_of_getElem? (i := 1710) (by decide +kernel), List.mem_of_getElem? (i := 2680) (by decide +kernel), List.mem_of_getElem? (i := 2681) (by decide +kernel)⟩
theorem lw_p235 : lw_okq (⟨"WordTongueModel", "variables", "(I)V"⟩, 119) := ⟨⟨by decide +kernel, by decide +kernel⟩, List.mem_of_getElem? (i := 1710) (by decide +kernel), List.mem_of_getElem? (i := 2684) (by decide +kernel), List.mem_of_getElem? (i := 2685) (by decide +kernel)⟩
theorem lw_p236 : lw_okq (⟨"WordTongueModel", "choose", "(I)V"⟩, 119) := ⟨⟨by decide +kernel, by decide +kernel⟩, List.mem_of_getElem? (i := 1710) (by decide +kernel), List.mem_of_getElem? (i := 2688) (by decide +kernel), List.mem_of_getElem? (i := 2689) (by decide +kernel)⟩
def lw_privs_15 : List (MethodName × Nat) := [(⟨"WordTongueModel", "peek", "()I"⟩, 119), (⟨"WordTongueModel", "toVector", "(III)V"⟩, 119), (⟨"WordTongueModel", "perform", "(I)V"⟩, 119), (⟨"WordTongueModel", "assign", "(II)V"⟩, 119), (⟨"WordTongueModel", "stores", "(I)V"⟩, 119), (⟨"WordTongueModel", "write", "(JI)V"⟩, 119), (⟨"WordTongueModel", "loop", "(II)V"⟩, 119), (⟨"WordTongueModel", "isStep", "(III)Z"⟩, 119), (⟨"WordTongueModel", "asked", "(I)V"⟩, 119), (⟨"WordTongueModel", "section", "(II)V"⟩, 119), (⟨"WordTongueModel", "returns", "(II)V"⟩, 119), (⟨"WordTongueModel", "variables", "(I)V"⟩, 119), (⟨"WordTongueModel", "choose", "(I)V"⟩, 119)]
theorem lw_r15 : ∀ q ∈ lw_privs_15, lw_okq q := List.forall_mem_cons.mpr ⟨lw_p224, List.forall_mem_cons.mpr ⟨lw_p225, List.forall_mem_cons.mpr ⟨lw_p226, List.forall_mem_cons.mpr ⟨lw_p227, List.forall_mem_cons.mpr ⟨lw_p228, List.forall_mem_cons.mpr ⟨lw_p229, List.forall_mem_cons.mpr ⟨lw_p230, List.forall_mem_cons.mpr ⟨lw_p231, List.forall_mem_cons.mpr ⟨lw_p232, List.forall_mem_cons.mpr ⟨lw_p233, List.forall_mem_cons.mpr ⟨lw_p234, List.forall_mem_cons.mpr ⟨lw_p235, List.forall_mem_cons.mpr ⟨lw_p236, fun _ h => absurd h List.not_mem_nil⟩⟩⟩⟩⟩⟩⟩⟩⟩⟩⟩⟩⟩
def lw_privs : List (MethodName × Nat) := lw_privs_1 ++ (lw_privs_2 ++ (lw_privs_3 ++ (lw_privs_4 ++ (lw_privs_5 ++ (lw_privs_6 ++ (lw_privs_7 ++ (lw_privs_8 ++ (lw_privs_9 ++ (lw_privs_10 ++ (lw_privs_11 ++ (lw_privs_12 ++ (lw_privs_13 ++ (lw_privs_14 ++ (lw_privs_15))))))))))))))
def lw_tbl : List Cond := k2_sels lw_privs ++ tables_1
theorem lw_privs_ok : ∀ q ∈ lw_privs, lw_okq q := by
  show ∀ q ∈ lw_privs_1 ++ (lw_privs_2 ++ (lw_privs_3 ++ (lw_privs_4 ++ (lw_privs_5 ++ (lw_privs_6 ++ (lw_privs_7 ++ (lw_privs_8 ++ (lw_privs_9 ++ (lw_privs_10 ++ (lw_privs_11 ++ (lw_privs_12 ++ (lw_privs_13 ++ (lw_privs_14 ++ (lw_privs_15)))))))))))))), lw_okq q
  exact List.forall_mem_append.mpr ⟨lw_r1, List.forall_mem_append.mpr ⟨lw_r2, List.forall_mem_append.mpr ⟨lw_r3, List.forall_mem_append.mpr ⟨lw_r4, List.forall_mem_append.mpr ⟨lw_r5, List.forall_mem_append.mpr ⟨lw_r6, List.forall_mem_append.mpr ⟨lw_r7, List.forall_mem_append.mpr ⟨lw_r8, List.forall_mem_append.mpr ⟨lw_r9, List.forall_mem_append.mpr ⟨lw_r10, List.forall_mem_append.mpr ⟨lw_r11, List.forall_mem_append.mpr ⟨lw_r12, List.forall_mem_append.mpr ⟨lw_r13, List.forall_mem_append.mpr ⟨lw_r14, lw_r15⟩⟩⟩⟩⟩⟩⟩⟩⟩⟩⟩⟩⟩⟩
-- pasted: names of claim/NAMES.whole.lean.txt (no word lists, no worlds, no decode rows)
def RX0 : String := "WordTongue$Channels"
def TX0 : u_T := fun k => match k with
  | 0 => ("WordTongue$Channels", "inputs", "[LWordTongue$Ints;", true)
  | 1 => ("WordTongue$Channels", "positions", "[I", true)
  | 2 => ("WordTongue$Channels", "outputs", "[LWordTongue$Ints;", true)
  | 3 => ("WordTongue$Channels", "inHand", "I", false)
  | _ => ("WordTongue$Channels", "outHand", "I", false)
def tyX0 : Nat → FieldType := fun k => match k with
  | 0 => .array (.object "WordTongue$Ints")
  | 1 => .array .int
  | 2 => .array (.object "WordTongue$Ints")
  | 3 => .int
  | _ => .int
abbrev wsX00 : List Cond := u_ws RX0 TX0 5
theorem nmX0 : ∀ a, a < 5 → ∀ b, b < 5 → a ≠ b → (TX0 a).2.1 ≠ (TX0 b).2.1 := by decide +kernel
theorem tyX0_ok : ∀ k, k < 5 → parseFieldDescriptor (TX0 k).2.2.1 = some (tyX0 k) := by decide +kernel
abbrev cX0_init : ByteArray := prog_2_method_1_code
def yX0_init : MethodName := ⟨RX0, "<init>", "()V"⟩
abbrev cX0_isInput : ByteArray := prog_2_method_2_code
def yX0_isInput : MethodName := ⟨RX0, "isInput", "(I)Z"⟩
abbrev cX0_isOutput : ByteArray := prog_2_method_3_code
def yX0_isOutput : MethodName := ⟨RX0, "isOutput", "(I)Z"⟩
abbrev cX0_take : ByteArray := prog_2_method_4_code
def yX0_take : MethodName := ⟨RX0, "take", "(ILWordTongue$Ints;)I"⟩
abbrev cX0_length : ByteArray := prog_2_method_5_code
def yX0_length : MethodName := ⟨RX0, "length", "(I)I"⟩
abbrev cX0_byteAt : ByteArray := prog_2_method_6_code
def yX0_byteAt : MethodName := ⟨RX0, "byteAt", "(II)I"⟩
abbrev cX0_beginRun : ByteArray := prog_2_method_7_code
def yX0_beginRun : MethodName := ⟨RX0, "beginRun", "()V"⟩
abbrev cX0_selectInput : ByteArray := prog_2_method_8_code
def yX0_selectInput : MethodName := ⟨RX0, "selectInput", "(I)Z"⟩
abbrev cX0_selectOutput : ByteArray := prog_2_method_9_code
def yX0_selectOutput : MethodName := ⟨RX0, "selectOutput", "(I)Z"⟩
abbrev cX0_rewind : ByteArray := prog_2_method_10_code
def yX0_rewind : MethodName := ⟨RX0, "rewind", "()V"⟩
abbrev cX0_next : ByteArray := prog_2_method_11_code
def yX0_next : MethodName := ⟨RX0, "next", "()I"⟩
abbrev cX0_read : ByteArray := prog_2_method_12_code
def yX0_read : MethodName := ⟨RX0, "read", "()I"⟩
abbrev cX0_unread : ByteArray := prog_2_method_13_code
def yX0_unread : MethodName := ⟨RX0, "unread", "()Z"⟩
abbrev cX0_readNumber : ByteArray := prog_2_method_14_code
def yX0_readNumber : MethodName := ⟨RX0, "readNumber", "()I"⟩
abbrev cX0_isBlank : ByteArray := prog_2_method_15_code
def yX0_isBlank : MethodName := ⟨RX0, "isBlank", "(I)Z"⟩
abbrev cX0_write : ByteArray := prog_2_method_16_code
def yX0_write : MethodName := ⟨RX0, "write", "(I)V"⟩
abbrev cX0_writeNumber : ByteArray := prog_2_method_17_code
def yX0_writeNumber : MethodName := ⟨RX0, "writeNumber", "(II)V"⟩
abbrev cX0_writeHex : ByteArray := prog_2_method_18_code
def yX0_writeHex : MethodName := ⟨RX0, "writeHex", "(II)V"⟩
def RX1 : String := "WordTongue$Coder"
def TX1 : u_T := fun k => match k with
  | 0 => ("WordTongue$Coder", "tree", "LWordTongue$Tree;", true)
  | 1 => ("WordTongue$Coder", "program", "LWordTongue$Program;", true)
  | 2 => ("WordTongue$Coder", "scope", "LWordTongue$Scope;", true)
  | 3 => ("WordTongue$Coder", "constants", "LWordTongue$Constants;", true)
  | 4 => ("WordTongue$Coder", "labels", "LWordTongue$Ints;", true)
  | 5 => ("WordTongue$Coder", "gotos", "LWordTongue$Ints;", true)
  | 6 => ("WordTongue$Coder", "cases", "LWordTongue$Ints;", true)
  | 7 => ("WordTongue$Coder", "breaks", "I", false)
  | 8 => ("WordTongue$Coder", "loops", "I", false)
  | 9 => ("WordTongue$Coder", "endcases", "I", false)
  | 10 => ("WordTongue$Coder", "results", "I", false)
  | 11 => ("WordTongue$Coder", "caseBase", "I", false)
  | 12 => ("WordTongue$Coder", "fallback", "I", false)
  | 13 => ("WordTongue$Coder", "used", "I", false)
  | 14 => ("WordTongue$Coder", "most", "I", false)
  | 15 => ("WordTongue$Coder", "routine", "I", false)
  | 16 => ("WordTongue$Coder", "area", "I", false)
  | 17 => ("WordTongue$Coder", "areas", "I", false)
  | _ => ("WordTongue$Coder", "isFunction", "Z", false)
def tyX1 : Nat → FieldType := fun k => match k with
  | 0 => .object "WordTongue$Tree"
  | 1 => .object "WordTongue$Program"
  | 2 => .object "WordTongue$Scope"
  | 3 => .object "WordTongue$Constants"
  | 4 => .object "WordTongue$Ints"
  | 5 => .object "WordTongue$Ints"
  | 6 => .object "WordTongue$Ints"
  | 7 => .int
  | 8 => .int
  | 9 => .int
  | 10 => .int
  | 11 => .int
  | 12 => .int
  | 13 => .int
  | 14 => .int
  | 15 => .int
  | 16 => .int
  | 17 => .int
  | _ => .boolean
abbrev wsX10 : List Cond := u_ws RX1 TX1 19
theorem nmX1 : ∀ a, a < 19 → ∀ b, b < 19 → a ≠ b → (TX1 a).2.1 ≠ (TX1 b).2.1 := by decide +kernel
theorem tyX1_ok : ∀ k, k < 19 → parseFieldDescriptor (TX1 k).2.2.1 = some (tyX1 k) := by decide +kernel
abbrev cX1_init : ByteArray := prog_3_method_1_code
def yX1_init : MethodName := ⟨RX1, "<init>", "(LWordTongue$Tree;LWordTongue$Program;)V"⟩
abbrev cX1_translate : ByteArray := prog_3_method_2_code
def yX1_translate : MethodName := ⟨RX1, "translate", "(I)V"⟩
abbrev cX1_leaveAll : ByteArray := prog_3_method_3_code
def yX1_leaveAll : MethodName := ⟨RX1, "leaveAll", "()V"⟩
abbrev cX1_emit : ByteArray := prog_3_method_4_code
def yX1_emit : MethodName := ⟨RX1, "emit", "(II)I"⟩
abbrev cX1_definitions : ByteArray := prog_3_method_5_code
def yX1_definitions : MethodName := ⟨RX1, "definitions", "(I)V"⟩
abbrev cX1_routines : ByteArray := prog_3_method_6_code
def yX1_routines : MethodName := ⟨RX1, "routines", "(I)V"⟩
abbrev cX1_routineName : ByteArray := prog_3_method_7_code
def yX1_routineName : MethodName := ⟨RX1, "routineName", "(I)V"⟩
abbrev cX1_routine : ByteArray := prog_3_method_8_code
def yX1_routine : MethodName := ⟨RX1, "routine", "(I)V"⟩
abbrev cX1_parameters : ByteArray := prog_3_method_9_code
def yX1_parameters : MethodName := ⟨RX1, "parameters", "(I)I"⟩
abbrev cX1_take : ByteArray := prog_3_method_10_code
def yX1_take : MethodName := ⟨RX1, "take", "(I)V"⟩
abbrev cX1_variables : ByteArray := prog_3_method_11_code
def yX1_variables : MethodName := ⟨RX1, "variables", "(I)V"⟩
abbrev cX1_section : ByteArray := prog_3_method_12_code
def yX1_section : MethodName := ⟨RX1, "section", "(I)V"⟩
abbrev cX1_entrance : ByteArray := prog_3_method_13_code
def yX1_entrance : MethodName := ⟨RX1, "entrance", "(I)V"⟩
abbrev cX1_command : ByteArray := prog_3_method_14_code
def yX1_command : MethodName := ⟨RX1, "command", "(I)V"⟩
abbrev cX1_assignment : ByteArray := prog_3_method_15_code
def yX1_assignment : MethodName := ⟨RX1, "assignment", "(I)V"⟩
abbrev cX1_isByte : ByteArray := prog_3_method_16_code
def yX1_isByte : MethodName := ⟨RX1, "isByte", "(I)Z"⟩
abbrev cX1_conditional : ByteArray := prog_3_method_17_code
def yX1_conditional : MethodName := ⟨RX1, "conditional", "(I)V"⟩
abbrev cX1_asking : ByteArray := prog_3_method_18_code
def yX1_asking : MethodName := ⟨RX1, "asking", "(I)V"⟩
abbrev cX1_repeats : ByteArray := prog_3_method_19_code
def yX1_repeats : MethodName := ⟨RX1, "repeats", "(I)V"⟩
abbrev cX1_counting : ByteArray := prog_3_method_20_code
def yX1_counting : MethodName := ⟨RX1, "counting", "(I)V"⟩
abbrev cX1_switching : ByteArray := prog_3_method_21_code
def yX1_switching : MethodName := ⟨RX1, "switching", "(I)V"⟩
abbrev cX1_telling : ByteArray := prog_3_method_22_code
def yX1_telling : MethodName := ⟨RX1, "telling", "(I)V"⟩
abbrev cX1_leaving : ByteArray := prog_3_method_23_code
def yX1_leaving : MethodName := ⟨RX1, "leaving", "(I)V"⟩
abbrev cX1_going : ByteArray := prog_3_method_24_code
def yX1_going : MethodName := ⟨RX1, "going", "(I)V"⟩
abbrev cX1_expression : ByteArray := prog_3_method_25_code
def yX1_expression : MethodName := ⟨RX1, "expression", "(III)V"⟩
abbrev cX1_unfit : ByteArray := prog_3_method_26_code
def yX1_unfit : MethodName := ⟨RX1, "unfit", "(II)V"⟩
abbrev cX1_calls : ByteArray := prog_3_method_27_code
def yX1_calls : MethodName := ⟨RX1, "calls", "(I)V"⟩
abbrev cX1_arguments : ByteArray := prog_3_method_28_code
def yX1_arguments : MethodName := ⟨RX1, "arguments", "(II)V"⟩
abbrev cX1_valof : ByteArray := prog_3_method_29_code
def yX1_valof : MethodName := ⟨RX1, "valof", "(I)V"⟩
abbrev cX1_choice : ByteArray := prog_3_method_30_code
def yX1_choice : MethodName := ⟨RX1, "choice", "(I)V"⟩
abbrev cX1_sign : ByteArray := prog_3_method_31_code
def yX1_sign : MethodName := ⟨RX1, "sign", "(II)I"⟩
abbrev cX1_single : ByteArray := prog_3_method_32_code
def yX1_single : MethodName := ⟨RX1, "single", "(III)V"⟩
abbrev cX1_unary : ByteArray := prog_3_method_33_code
def yX1_unary : MethodName := ⟨RX1, "unary", "(I)V"⟩
abbrev cX1_table : ByteArray := prog_3_method_34_code
def yX1_table : MethodName := ⟨RX1, "table", "(I)V"⟩
abbrev cX1_name : ByteArray := prog_3_method_35_code
def yX1_name : MethodName := ⟨RX1, "name", "(III)V"⟩
def RX2 : String := "WordTongue$Constants"
def TX2 : u_T := fun k => match k with
  | 0 => ("WordTongue$Constants", "tree", "LWordTongue$Tree;", true)
  | 1 => ("WordTongue$Constants", "program", "LWordTongue$Program;", true)
  | 2 => ("WordTongue$Constants", "scope", "LWordTongue$Scope;", true)
  | 3 => ("WordTongue$Constants", "stack", "LWordTongue$Ints;", true)
  | 4 => ("WordTongue$Constants", "failed", "Z", false)
  | 5 => ("WordTongue$Constants", "faultKind", "I", false)
  | _ => ("WordTongue$Constants", "faultPlace", "I", false)
def tyX2 : Nat → FieldType := fun k => match k with
  | 0 => .object "WordTongue$Tree"
  | 1 => .object "WordTongue$Program"
  | 2 => .object "WordTongue$Scope"
  | 3 => .object "WordTongue$Ints"
  | 4 => .boolean
  | 5 => .int
  | _ => .int
abbrev wsX20 : List Cond := u_ws RX2 TX2 7
theorem nmX2 : ∀ a, a < 7 → ∀ b, b < 7 → a ≠ b → (TX2 a).2.1 ≠ (TX2 b).2.1 := by decide +kernel
theorem tyX2_ok : ∀ k, k < 7 → parseFieldDescriptor (TX2 k).2.2.1 = some (tyX2 k) := by decide +kernel
abbrev cX2_init : ByteArray := prog_4_method_1_code
def yX2_init : MethodName := ⟨RX2, "<init>", "(LWordTongue$Tree;LWordTongue$Program;LWordTongue$Scope;)V"⟩
abbrev cX2_hasFailed : ByteArray := prog_4_method_2_code
def yX2_hasFailed : MethodName := ⟨RX2, "hasFailed", "()Z"⟩
abbrev cX2_number : ByteArray := prog_4_method_3_code
def yX2_number : MethodName := ⟨RX2, "number", "(II)I"⟩
abbrev cX2_fail : ByteArray := prog_4_method_4_code
def yX2_fail : MethodName := ⟨RX2, "fail", "(II)V"⟩
abbrev cX2_reckon : ByteArray := prog_4_method_5_code
def yX2_reckon : MethodName := ⟨RX2, "reckon", "(IZ)I"⟩
abbrev cX2_relate : ByteArray := prog_4_method_6_code
def yX2_relate : MethodName := ⟨RX2, "relate", "(IZZ)Z"⟩
abbrev cX2_work : ByteArray := prog_4_method_7_code
def yX2_work : MethodName := ⟨RX2, "work", "(IZI)V"⟩
abbrev cX2_choose : ByteArray := prog_4_method_8_code
def yX2_choose : MethodName := ⟨RX2, "choose", "(IZ)I"⟩
abbrev cX2_single : ByteArray := prog_4_method_9_code
def yX2_single : MethodName := ⟨RX2, "single", "(III)V"⟩
def RX3 : String := "WordTongue$Heap"
def TX3 : u_T := fun k => match k with
  | 0 => ("WordTongue$Heap", "starts", "LWordTongue$Ints;", true)
  | _ => ("WordTongue$Heap", "lengths", "LWordTongue$Ints;", true)
def tyX3 : Nat → FieldType := fun k => match k with
  | 0 => .object "WordTongue$Ints"
  | _ => .object "WordTongue$Ints"
abbrev wsX30 : List Cond := u_ws RX3 TX3 2
theorem nmX3 : ∀ a, a < 2 → ∀ b, b < 2 → a ≠ b → (TX3 a).2.1 ≠ (TX3 b).2.1 := by decide +kernel
theorem tyX3_ok : ∀ k, k < 2 → parseFieldDescriptor (TX3 k).2.2.1 = some (tyX3 k) := by decide +kernel
abbrev cX3_init : ByteArray := prog_5_method_1_code
def yX3_init : MethodName := ⟨RX3, "<init>", "()V"⟩
abbrev cX3_clear : ByteArray := prog_5_method_2_code
def yX3_clear : MethodName := ⟨RX3, "clear", "()V"⟩
abbrev cX3_get : ByteArray := prog_5_method_3_code
def yX3_get : MethodName := ⟨RX3, "get", "(III)I"⟩
abbrev cX3_touched : ByteArray := prog_5_method_4_code
def yX3_touched : MethodName := ⟨RX3, "touched", "(II)I"⟩
abbrev cX3_free : ByteArray := prog_5_method_5_code
def yX3_free : MethodName := ⟨RX3, "free", "(I)Z"⟩
abbrev cX3_limit : ByteArray := prog_5_method_6_code
def yX3_limit : MethodName := ⟨RX3, "limit", "(I)I"⟩
def RX4 : String := "WordTongue$Ints"
def TX4 : u_T := fun k => match k with
  | 0 => ("WordTongue$Ints", "most", "I", true)
  | 1 => ("WordTongue$Ints", "cells", "[I", false)
  | _ => ("WordTongue$Ints", "size", "I", false)
def tyX4 : Nat → FieldType := fun k => match k with
  | 0 => .int
  | 1 => .array .int
  | _ => .int
abbrev wsX40 : List Cond := u_ws RX4 TX4 3
theorem nmX4 : ∀ a, a < 3 → ∀ b, b < 3 → a ≠ b → (TX4 a).2.1 ≠ (TX4 b).2.1 := by decide +kernel
theorem tyX4_ok : ∀ k, k < 3 → parseFieldDescriptor (TX4 k).2.2.1 = some (tyX4 k) := by decide +kernel
abbrev cX4_init : ByteArray := prog_6_method_1_code
def yX4_init : MethodName := ⟨RX4, "<init>", "(I)V"⟩
abbrev cX4_size : ByteArray := prog_6_method_2_code
def yX4_size : MethodName := ⟨RX4, "size", "()I"⟩
abbrev cX4_get : ByteArray := prog_6_method_3_code
def yX4_get : MethodName := ⟨RX4, "get", "(I)I"⟩
abbrev cX4_set : ByteArray := prog_6_method_4_code
def yX4_set : MethodName := ⟨RX4, "set", "(II)V"⟩
abbrev cX4_add : ByteArray := prog_6_method_5_code
def yX4_add : MethodName := ⟨RX4, "add", "(I)V"⟩
abbrev cX4_top : ByteArray := prog_6_method_6_code
def yX4_top : MethodName := ⟨RX4, "top", "()I"⟩
abbrev cX4_pop : ByteArray := prog_6_method_7_code
def yX4_pop : MethodName := ⟨RX4, "pop", "()I"⟩
abbrev cX4_cut : ByteArray := prog_6_method_8_code
def yX4_cut : MethodName := ⟨RX4, "cut", "(I)V"⟩
abbrev cX4_copyFrom : ByteArray := prog_6_method_9_code
def yX4_copyFrom : MethodName := ⟨RX4, "copyFrom", "(LWordTongue$Ints;)V"⟩
def RX5 : String := "WordTongue$Machine"
def TX5 : u_T := fun k => match k with
  | 0 => ("WordTongue$Machine", "program", "LWordTongue$Program;", true)
  | 1 => ("WordTongue$Machine", "channels", "LWordTongue$Channels;", true)
  | 2 => ("WordTongue$Machine", "heap", "LWordTongue$Heap;", true)
  | 3 => ("WordTongue$Machine", "stack", "LWordTongue$Ints;", true)
  | 4 => ("WordTongue$Machine", "calls", "LWordTongue$Ints;", true)
  | 5 => ("WordTongue$Machine", "cells", "[I", false)
  | 6 => ("WordTongue$Machine", "words", "I", false)
  | 7 => ("WordTongue$Machine", "at", "I", false)
  | 8 => ("WordTongue$Machine", "base", "I", false)
  | 9 => ("WordTongue$Machine", "routine", "I", false)
  | 10 => ("WordTongue$Machine", "rest", "I", false)
  | 11 => ("WordTongue$Machine", "answer", "I", false)
  | 12 => ("WordTongue$Machine", "error", "I", false)
  | 13 => ("WordTongue$Machine", "over", "Z", false)
  | 14 => ("WordTongue$Machine", "service", "I", false)
  | _ => ("WordTongue$Machine", "given", "I", false)
def tyX5 : Nat → FieldType := fun k => match k with
  | 0 => .object "WordTongue$Program"
  | 1 => .object "WordTongue$Channels"
  | 2 => .object "WordTongue$Heap"
  | 3 => .object "WordTongue$Ints"
  | 4 => .object "WordTongue$Ints"
  | 5 => .array .int
  | 6 => .int
  | 7 => .int
  | 8 => .int
  | 9 => .int
  | 10 => .int
  | 11 => .int
  | 12 => .int
  | 13 => .boolean
  | 14 => .int
  | _ => .int
abbrev wsX50 : List Cond := u_ws RX5 TX5 16
theorem nmX5 : ∀ a, a < 16 → ∀ b, b < 16 → a ≠ b → (TX5 a).2.1 ≠ (TX5 b).2.1 := by decide +kernel
theorem tyX5_ok : ∀ k, k < 16 → parseFieldDescriptor (TX5 k).2.2.1 = some (tyX5 k) := by decide +kernel
abbrev cX5_init : ByteArray := prog_7_method_1_code
def yX5_init : MethodName := ⟨RX5, "<init>", "(LWordTongue$Program;LWordTongue$Channels;)V"⟩
abbrev cX5_told : ByteArray := prog_7_method_2_code
def yX5_told : MethodName := ⟨RX5, "told", "()I"⟩
abbrev cX5_fuelLeft : ByteArray := prog_7_method_3_code
def yX5_fuelLeft : MethodName := ⟨RX5, "fuelLeft", "()I"⟩
abbrev cX5_left : ByteArray := prog_7_method_4_code
def yX5_left : MethodName := ⟨RX5, "left", "(I)I"⟩
abbrev cX5_isThere : ByteArray := prog_7_method_5_code
def yX5_isThere : MethodName := ⟨RX5, "isThere", "(I)Z"⟩
abbrev cX5_go : ByteArray := prog_7_method_6_code
def yX5_go : MethodName := ⟨RX5, "go", "(I)I"⟩
abbrev cX5_prepare : ByteArray := prog_7_method_7_code
def yX5_prepare : MethodName := ⟨RX5, "prepare", "()V"⟩
abbrev cX5_fail : ByteArray := prog_7_method_8_code
def yX5_fail : MethodName := ⟨RX5, "fail", "(I)V"⟩
abbrev cX5_finish : ByteArray := prog_7_method_9_code
def yX5_finish : MethodName := ⟨RX5, "finish", "(II)V"⟩
abbrev cX5_burns : ByteArray := prog_7_method_10_code
def yX5_burns : MethodName := ⟨RX5, "burns", "()Z"⟩
abbrev cX5_put : ByteArray := prog_7_method_11_code
def yX5_put : MethodName := ⟨RX5, "put", "(II)V"⟩
abbrev cX5_look : ByteArray := prog_7_method_12_code
def yX5_look : MethodName := ⟨RX5, "look", "(I)I"⟩
abbrev cX5_step : ByteArray := prog_7_method_13_code
def yX5_step : MethodName := ⟨RX5, "step", "(II)V"⟩
abbrev cX5_turn : ByteArray := prog_7_method_14_code
def yX5_turn : MethodName := ⟨RX5, "turn", "(II)V"⟩
abbrev cX5_link : ByteArray := prog_7_method_15_code
def yX5_link : MethodName := ⟨RX5, "link", "(IIII)V"⟩
abbrev cX5_work : ByteArray := prog_7_method_16_code
def yX5_work : MethodName := ⟨RX5, "work", "(III)V"⟩
abbrev cX5_wordOfByte : ByteArray := prog_7_method_17_code
def yX5_wordOfByte : MethodName := ⟨RX5, "wordOfByte", "(II)I"⟩
abbrev cX5_lookByte : ByteArray := prog_7_method_18_code
def yX5_lookByte : MethodName := ⟨RX5, "lookByte", "()V"⟩
abbrev cX5_putByte : ByteArray := prog_7_method_19_code
def yX5_putByte : MethodName := ⟨RX5, "putByte", "()V"⟩
abbrev cX5_isBetween : ByteArray := prog_7_method_20_code
def yX5_isBetween : MethodName := ⟨RX5, "isBetween", "(III)Z"⟩
abbrev cX5_call : ByteArray := prog_7_method_21_code
def yX5_call : MethodName := ⟨RX5, "call", "(III)V"⟩
abbrev cX5_enter : ByteArray := prog_7_method_22_code
def yX5_enter : MethodName := ⟨RX5, "enter", "(III)V"⟩
abbrev cX5_argument : ByteArray := prog_7_method_23_code
def yX5_argument : MethodName := ⟨RX5, "argument", "(II)I"⟩
abbrev cX5_back : ByteArray := prog_7_method_24_code
def yX5_back : MethodName := ⟨RX5, "back", "()V"⟩
abbrev cX5_apply : ByteArray := prog_7_method_25_code
def yX5_apply : MethodName := ⟨RX5, "apply", "(II)V"⟩
abbrev cX5_serve : ByteArray := prog_7_method_26_code
def yX5_serve : MethodName := ⟨RX5, "serve", "()V"⟩
abbrev cX5_exchange : ByteArray := prog_7_method_27_code
def yX5_exchange : MethodName := ⟨RX5, "exchange", "(II)I"⟩
abbrev cX5_reckon : ByteArray := prog_7_method_28_code
def yX5_reckon : MethodName := ⟨RX5, "reckon", "(IIII)I"⟩
abbrev cX5_writeString : ByteArray := prog_7_method_29_code
def yX5_writeString : MethodName := ⟨RX5, "writeString", "(I)V"⟩
def RX6 : String := "WordTongue$Parser"
def TX6 : u_T := fun k => match k with
  | 0 => ("WordTongue$Parser", "kinds", "LWordTongue$Ints;", true)
  | 1 => ("WordTongue$Parser", "infos", "LWordTongue$Ints;", true)
  | 2 => ("WordTongue$Parser", "places", "LWordTongue$Ints;", true)
  | 3 => ("WordTongue$Parser", "strings", "LWordTongue$Ints;", true)
  | 4 => ("WordTongue$Parser", "tree", "LWordTongue$Tree;", true)
  | 5 => ("WordTongue$Parser", "program", "LWordTongue$Program;", true)
  | 6 => ("WordTongue$Parser", "tags", "LWordTongue$Ints;", true)
  | 7 => ("WordTongue$Parser", "signs", "LWordTongue$Ints;", true)
  | 8 => ("WordTongue$Parser", "globals", "LWordTongue$Ints;", true)
  | 9 => ("WordTongue$Parser", "at", "I", false)
  | 10 => ("WordTongue$Parser", "depth", "I", false)
  | _ => ("WordTongue$Parser", "root", "I", false)
def tyX6 : Nat → FieldType := fun k => match k with
  | 0 => .object "WordTongue$Ints"
  | 1 => .object "WordTongue$Ints"
  | 2 => .object "WordTongue$Ints"
  | 3 => .object "WordTongue$Ints"
  | 4 => .object "WordTongue$Tree"
  | 5 => .object "WordTongue$Program"
  | 6 => .object "WordTongue$Ints"
  | 7 => .object "WordTongue$Ints"
  | 8 => .object "WordTongue$Ints"
  | 9 => .int
  | 10 => .int
  | _ => .int
abbrev wsX60 : List Cond := u_ws RX6 TX6 12
theorem nmX6 : ∀ a, a < 12 → ∀ b, b < 12 → a ≠ b → (TX6 a).2.1 ≠ (TX6 b).2.1 := by decide +kernel
theorem tyX6_ok : ∀ k, k < 12 → parseFieldDescriptor (TX6 k).2.2.1 = some (tyX6 k) := by decide +kernel
abbrev cX6_init : ByteArray := prog_8_method_1_code
def yX6_init : MethodName := ⟨RX6, "<init>", "(LWordTongue$Scanner;LWordTongue$Tree;LWordTongue$Program;)V"⟩
abbrev cX6_root : ByteArray := prog_8_method_2_code
def yX6_root : MethodName := ⟨RX6, "root", "()I"⟩
abbrev cX6_reads : ByteArray := prog_8_method_3_code
def yX6_reads : MethodName := ⟨RX6, "reads", "()Z"⟩
abbrev cX6_kind : ByteArray := prog_8_method_4_code
def yX6_kind : MethodName := ⟨RX6, "kind", "()I"⟩
abbrev cX6_place : ByteArray := prog_8_method_5_code
def yX6_place : MethodName := ⟨RX6, "place", "()I"⟩
abbrev cX6_info : ByteArray := prog_8_method_6_code
def yX6_info : MethodName := ⟨RX6, "info", "()I"⟩
abbrev cX6_advance : ByteArray := prog_8_method_7_code
def yX6_advance : MethodName := ⟨RX6, "advance", "()V"⟩
abbrev cX6_refuse : ByteArray := prog_8_method_8_code
def yX6_refuse : MethodName := ⟨RX6, "refuse", "()V"⟩
abbrev cX6_due : ByteArray := prog_8_method_9_code
def yX6_due : MethodName := ⟨RX6, "due", "(I)V"⟩
abbrev cX6_enter : ByteArray := prog_8_method_10_code
def yX6_enter : MethodName := ⟨RX6, "enter", "()V"⟩
abbrev cX6_nameDue : ByteArray := prog_8_method_11_code
def yX6_nameDue : MethodName := ⟨RX6, "nameDue", "()I"⟩
abbrev cX6_leaf : ByteArray := prog_8_method_12_code
def yX6_leaf : MethodName := ⟨RX6, "leaf", "(I)I"⟩
abbrev cX6_text : ByteArray := prog_8_method_13_code
def yX6_text : MethodName := ⟨RX6, "text", "()I"⟩
abbrev cX6_declaration : ByteArray := prog_8_method_14_code
def yX6_declaration : MethodName := ⟨RX6, "declaration", "(Z)I"⟩
abbrev cX6_definitions : ByteArray := prog_8_method_15_code
def yX6_definitions : MethodName := ⟨RX6, "definitions", "(Z)I"⟩
abbrev cX6_open : ByteArray := prog_8_method_16_code
def yX6_open : MethodName := ⟨RX6, "open", "()V"⟩
abbrev cX6_close : ByteArray := prog_8_method_17_code
def yX6_close : MethodName := ⟨RX6, "close", "()V"⟩
abbrev cX6_isOpen : ByteArray := prog_8_method_18_code
def yX6_isOpen : MethodName := ⟨RX6, "isOpen", "(I)Z"⟩
abbrev cX6_routine : ByteArray := prog_8_method_19_code
def yX6_routine : MethodName := ⟨RX6, "routine", "(Z)I"⟩
abbrev cX6_isGlobal : ByteArray := prog_8_method_20_code
def yX6_isGlobal : MethodName := ⟨RX6, "isGlobal", "(I)Z"⟩
abbrev cX6_names : ByteArray := prog_8_method_21_code
def yX6_names : MethodName := ⟨RX6, "names", "(I)V"⟩
abbrev cX6_variables : ByteArray := prog_8_method_22_code
def yX6_variables : MethodName := ⟨RX6, "variables", "(I)V"⟩
abbrev cX6_section : ByteArray := prog_8_method_23_code
def yX6_section : MethodName := ⟨RX6, "section", "(Z)I"⟩
abbrev cX6_cases : ByteArray := prog_8_method_24_code
def yX6_cases : MethodName := ⟨RX6, "cases", "(I)V"⟩
abbrev cX6_labels : ByteArray := prog_8_method_25_code
def yX6_labels : MethodName := ⟨RX6, "labels", "(I)V"⟩
abbrev cX6_command : ByteArray := prog_8_method_26_code
def yX6_command : MethodName := ⟨RX6, "command", "()I"⟩
abbrev cX6_isRepeat : ByteArray := prog_8_method_27_code
def yX6_isRepeat : MethodName := ⟨RX6, "isRepeat", "(I)Z"⟩
abbrev cX6_repeats : ByteArray := prog_8_method_28_code
def yX6_repeats : MethodName := ⟨RX6, "repeats", "(I)I"⟩
abbrev cX6_conditional : ByteArray := prog_8_method_29_code
def yX6_conditional : MethodName := ⟨RX6, "conditional", "()I"⟩
abbrev cX6_passDo : ByteArray := prog_8_method_30_code
def yX6_passDo : MethodName := ⟨RX6, "passDo", "()V"⟩
abbrev cX6_counting : ByteArray := prog_8_method_31_code
def yX6_counting : MethodName := ⟨RX6, "counting", "()I"⟩
abbrev cX6_switching : ByteArray := prog_8_method_32_code
def yX6_switching : MethodName := ⟨RX6, "switching", "()I"⟩
abbrev cX6_assignment : ByteArray := prog_8_method_33_code
def yX6_assignment : MethodName := ⟨RX6, "assignment", "()I"⟩
abbrev cX6_isCall : ByteArray := prog_8_method_34_code
def yX6_isCall : MethodName := ⟨RX6, "isCall", "(I)Z"⟩
abbrev cX6_expression : ByteArray := prog_8_method_35_code
def yX6_expression : MethodName := ⟨RX6, "expression", "()I"⟩
abbrev cX6_settle : ByteArray := prog_8_method_36_code
def yX6_settle : MethodName := ⟨RX6, "settle", "(III)V"⟩
abbrev cX6_operand : ByteArray := prog_8_method_37_code
def yX6_operand : MethodName := ⟨RX6, "operand", "(I)V"⟩
abbrev cX6_passSigns : ByteArray := prog_8_method_38_code
def yX6_passSigns : MethodName := ⟨RX6, "passSigns", "(Z)V"⟩
abbrev cX6_hangSigns : ByteArray := prog_8_method_39_code
def yX6_hangSigns : MethodName := ⟨RX6, "hangSigns", "(II)V"⟩
abbrev cX6_primary : ByteArray := prog_8_method_40_code
def yX6_primary : MethodName := ⟨RX6, "primary", "()I"⟩
abbrev cX6_table : ByteArray := prog_8_method_41_code
def yX6_table : MethodName := ⟨RX6, "table", "()I"⟩
abbrev cX6_pack : ByteArray := prog_8_method_42_code
def yX6_pack : MethodName := ⟨RX6, "pack", "(I)I"⟩
abbrev cX6_calls : ByteArray := prog_8_method_43_code
def yX6_calls : MethodName := ⟨RX6, "calls", "(I)I"⟩
def RX7 : String := "WordTongue$Program"
def TX7 : u_T := fun k => match k with
  | 0 => ("WordTongue$Program", "code", "LWordTongue$Ints;", true)
  | 1 => ("WordTongue$Program", "image", "LWordTongue$Ints;", true)
  | 2 => ("WordTongue$Program", "homes", "LWordTongue$Ints;", true)
  | 3 => ("WordTongue$Program", "starts", "LWordTongue$Ints;", true)
  | 4 => ("WordTongue$Program", "frames", "LWordTongue$Ints;", true)
  | 5 => ("WordTongue$Program", "params", "LWordTongue$Ints;", true)
  | 6 => ("WordTongue$Program", "storeWords", "I", false)
  | 7 => ("WordTongue$Program", "starter", "I", false)
  | 8 => ("WordTongue$Program", "kind", "I", false)
  | 9 => ("WordTongue$Program", "place", "I", false)
  | _ => ("WordTongue$Program", "ready", "Z", false)
def tyX7 : Nat → FieldType := fun k => match k with
  | 0 => .object "WordTongue$Ints"
  | 1 => .object "WordTongue$Ints"
  | 2 => .object "WordTongue$Ints"
  | 3 => .object "WordTongue$Ints"
  | 4 => .object "WordTongue$Ints"
  | 5 => .object "WordTongue$Ints"
  | 6 => .int
  | 7 => .int
  | 8 => .int
  | 9 => .int
  | _ => .boolean
abbrev wsX70 : List Cond := u_ws RX7 TX7 11
theorem nmX7 : ∀ a, a < 11 → ∀ b, b < 11 → a ≠ b → (TX7 a).2.1 ≠ (TX7 b).2.1 := by decide +kernel
theorem tyX7_ok : ∀ k, k < 11 → parseFieldDescriptor (TX7 k).2.2.1 = some (tyX7 k) := by decide +kernel
abbrev cX7_init : ByteArray := prog_9_method_1_code
def yX7_init : MethodName := ⟨RX7, "<init>", "()V"⟩
abbrev cX7_clear : ByteArray := prog_9_method_2_code
def yX7_clear : MethodName := ⟨RX7, "clear", "(I)V"⟩
abbrev cX7_blame : ByteArray := prog_9_method_3_code
def yX7_blame : MethodName := ⟨RX7, "blame", "(II)V"⟩
abbrev cX7_judge : ByteArray := prog_9_method_4_code
def yX7_judge : MethodName := ⟨RX7, "judge", "()V"⟩
abbrev cX7_isReady : ByteArray := prog_9_method_5_code
def yX7_isReady : MethodName := ⟨RX7, "isReady", "()Z"⟩
abbrev cX7_faultKind : ByteArray := prog_9_method_6_code
def yX7_faultKind : MethodName := ⟨RX7, "faultKind", "()I"⟩
abbrev cX7_faultPlace : ByteArray := prog_9_method_7_code
def yX7_faultPlace : MethodName := ⟨RX7, "faultPlace", "()I"⟩
abbrev cX7_storeWords : ByteArray := prog_9_method_8_code
def yX7_storeWords : MethodName := ⟨RX7, "storeWords", "()I"⟩
abbrev cX7_words : ByteArray := prog_9_method_9_code
def yX7_words : MethodName := ⟨RX7, "words", "()I"⟩
abbrev cX7_wordAt : ByteArray := prog_9_method_10_code
def yX7_wordAt : MethodName := ⟨RX7, "wordAt", "(I)I"⟩
abbrev cX7_setWord : ByteArray := prog_9_method_11_code
def yX7_setWord : MethodName := ⟨RX7, "setWord", "(II)V"⟩
abbrev cX7_addWord : ByteArray := prog_9_method_12_code
def yX7_addWord : MethodName := ⟨RX7, "addWord", "(I)I"⟩
abbrev cX7_addRoutine : ByteArray := prog_9_method_13_code
def yX7_addRoutine : MethodName := ⟨RX7, "addRoutine", "(Z)I"⟩
abbrev cX7_setStarter : ByteArray := prog_9_method_14_code
def yX7_setStarter : MethodName := ⟨RX7, "setStarter", "(I)V"⟩
abbrev cX7_starter : ByteArray := prog_9_method_15_code
def yX7_starter : MethodName := ⟨RX7, "starter", "()I"⟩
abbrev cX7_routines : ByteArray := prog_9_method_16_code
def yX7_routines : MethodName := ⟨RX7, "routines", "()I"⟩
abbrev cX7_home : ByteArray := prog_9_method_17_code
def yX7_home : MethodName := ⟨RX7, "home", "(I)I"⟩
abbrev cX7_begin : ByteArray := prog_9_method_18_code
def yX7_begin : MethodName := ⟨RX7, "begin", "(I)I"⟩
abbrev cX7_frame : ByteArray := prog_9_method_19_code
def yX7_frame : MethodName := ⟨RX7, "frame", "(I)I"⟩
abbrev cX7_params : ByteArray := prog_9_method_20_code
def yX7_params : MethodName := ⟨RX7, "params", "(I)I"⟩
abbrev cX7_setBegin : ByteArray := prog_9_method_21_code
def yX7_setBegin : MethodName := ⟨RX7, "setBegin", "(II)V"⟩
abbrev cX7_setFrame : ByteArray := prog_9_method_22_code
def yX7_setFrame : MethodName := ⟨RX7, "setFrame", "(II)V"⟩
abbrev cX7_emit : ByteArray := prog_9_method_23_code
def yX7_emit : MethodName := ⟨RX7, "emit", "(II)I"⟩
abbrev cX7_here : ByteArray := prog_9_method_24_code
def yX7_here : MethodName := ⟨RX7, "here", "()I"⟩
abbrev cX7_codeAt : ByteArray := prog_9_method_25_code
def yX7_codeAt : MethodName := ⟨RX7, "codeAt", "(I)I"⟩
abbrev cX7_setOperand : ByteArray := prog_9_method_26_code
def yX7_setOperand : MethodName := ⟨RX7, "setOperand", "(II)V"⟩
abbrev cX7_land : ByteArray := prog_9_method_27_code
def yX7_land : MethodName := ⟨RX7, "land", "(I)V"⟩
abbrev cX7_landAt : ByteArray := prog_9_method_28_code
def yX7_landAt : MethodName := ⟨RX7, "landAt", "(II)V"⟩
def RX8 : String := "WordTongue$Scanner"
def TX8 : u_T := fun k => match k with
  | 0 => ("WordTongue$Scanner", "text", "LWordTongue$Ints;", true)
  | 1 => ("WordTongue$Scanner", "kinds", "LWordTongue$Ints;", true)
  | 2 => ("WordTongue$Scanner", "infos", "LWordTongue$Ints;", true)
  | 3 => ("WordTongue$Scanner", "places", "LWordTongue$Ints;", true)
  | 4 => ("WordTongue$Scanner", "strings", "LWordTongue$Ints;", true)
  | 5 => ("WordTongue$Scanner", "letters", "LWordTongue$Ints;", true)
  | 6 => ("WordTongue$Scanner", "heads", "LWordTongue$Ints;", true)
  | 7 => ("WordTongue$Scanner", "sums", "LWordTongue$Ints;", true)
  | 8 => ("WordTongue$Scanner", "knownLetters", "I", true)
  | 9 => ("WordTongue$Scanner", "at", "I", false)
  | _ => ("WordTongue$Scanner", "fresh", "Z", false)
def tyX8 : Nat → FieldType := fun k => match k with
  | 0 => .object "WordTongue$Ints"
  | 1 => .object "WordTongue$Ints"
  | 2 => .object "WordTongue$Ints"
  | 3 => .object "WordTongue$Ints"
  | 4 => .object "WordTongue$Ints"
  | 5 => .object "WordTongue$Ints"
  | 6 => .object "WordTongue$Ints"
  | 7 => .object "WordTongue$Ints"
  | 8 => .int
  | 9 => .int
  | _ => .boolean
abbrev wsX80 : List Cond := u_ws RX8 TX8 11
theorem nmX8 : ∀ a, a < 11 → ∀ b, b < 11 → a ≠ b → (TX8 a).2.1 ≠ (TX8 b).2.1 := by decide +kernel
theorem tyX8_ok : ∀ k, k < 11 → parseFieldDescriptor (TX8 k).2.2.1 = some (tyX8 k) := by decide +kernel
abbrev cX8_init : ByteArray := prog_10_method_1_code
def yX8_init : MethodName := ⟨RX8, "<init>", "(LWordTongue$Ints;)V"⟩
abbrev cX8_know : ByteArray := prog_10_method_2_code
def yX8_know : MethodName := ⟨RX8, "know", "(Ljava/lang/String;)V"⟩
abbrev cX8_idOf : ByteArray := prog_10_method_3_code
def yX8_idOf : MethodName := ⟨RX8, "idOf", "(LWordTongue$Ints;II)I"⟩
abbrev cX8_isAlike : ByteArray := prog_10_method_4_code
def yX8_isAlike : MethodName := ⟨RX8, "isAlike", "(ILWordTongue$Ints;II)Z"⟩
abbrev cX8_kinds : ByteArray := prog_10_method_5_code
def yX8_kinds : MethodName := ⟨RX8, "kinds", "()LWordTongue$Ints;"⟩
abbrev cX8_infos : ByteArray := prog_10_method_6_code
def yX8_infos : MethodName := ⟨RX8, "infos", "()LWordTongue$Ints;"⟩
abbrev cX8_places : ByteArray := prog_10_method_7_code
def yX8_places : MethodName := ⟨RX8, "places", "()LWordTongue$Ints;"⟩
abbrev cX8_strings : ByteArray := prog_10_method_8_code
def yX8_strings : MethodName := ⟨RX8, "strings", "()LWordTongue$Ints;"⟩
abbrev cX8_scan : ByteArray := prog_10_method_9_code
def yX8_scan : MethodName := ⟨RX8, "scan", "()V"⟩
abbrev cX8_pass : ByteArray := prog_10_method_10_code
def yX8_pass : MethodName := ⟨RX8, "pass", "()V"⟩
abbrev cX8_skipLine : ByteArray := prog_10_method_11_code
def yX8_skipLine : MethodName := ⟨RX8, "skipLine", "()V"⟩
abbrev cX8_put : ByteArray := prog_10_method_12_code
def yX8_put : MethodName := ⟨RX8, "put", "(III)V"⟩
abbrev cX8_mayEnd : ByteArray := prog_10_method_13_code
def yX8_mayEnd : MethodName := ⟨RX8, "mayEnd", "(I)Z"⟩
abbrev cX8_mayBegin : ByteArray := prog_10_method_14_code
def yX8_mayBegin : MethodName := ⟨RX8, "mayBegin", "(I)Z"⟩
abbrev cX8_token : ByteArray := prog_10_method_15_code
def yX8_token : MethodName := ⟨RX8, "token", "()V"⟩
abbrev cX8_isLetter : ByteArray := prog_10_method_16_code
def yX8_isLetter : MethodName := ⟨RX8, "isLetter", "(I)Z"⟩
abbrev cX8_isDigit : ByteArray := prog_10_method_17_code
def yX8_isDigit : MethodName := ⟨RX8, "isDigit", "(I)Z"⟩
abbrev cX8_isRest : ByteArray := prog_10_method_18_code
def yX8_isRest : MethodName := ⟨RX8, "isRest", "(I)Z"⟩
abbrev cX8_restEnd : ByteArray := prog_10_method_19_code
def yX8_restEnd : MethodName := ⟨RX8, "restEnd", "(I)I"⟩
abbrev cX8_name : ByteArray := prog_10_method_20_code
def yX8_name : MethodName := ⟨RX8, "name", "(I)V"⟩
abbrev cX8_digitOf : ByteArray := prog_10_method_21_code
def yX8_digitOf : MethodName := ⟨RX8, "digitOf", "(I)I"⟩
abbrev cX8_number : ByteArray := prog_10_method_22_code
def yX8_number : MethodName := ⟨RX8, "number", "(III)V"⟩
abbrev cX8_quoted : ByteArray := prog_10_method_23_code
def yX8_quoted : MethodName := ⟨RX8, "quoted", "(I)I"⟩
abbrev cX8_string : ByteArray := prog_10_method_24_code
def yX8_string : MethodName := ⟨RX8, "string", "(I)V"⟩
abbrev cX8_section : ByteArray := prog_10_method_25_code
def yX8_section : MethodName := ⟨RX8, "section", "(I)V"⟩
abbrev cX8_sign : ByteArray := prog_10_method_26_code
def yX8_sign : MethodName := ⟨RX8, "sign", "(II)V"⟩
abbrev cX8_doubled : ByteArray := prog_10_method_27_code
def yX8_doubled : MethodName := ⟨RX8, "doubled", "(II)I"⟩
abbrev cX8_single : ByteArray := prog_10_method_28_code
def yX8_single : MethodName := ⟨RX8, "single", "(I)I"⟩
def RX9 : String := "WordTongue$Scope"
def TX9 : u_T := fun k => match k with
  | 0 => ("WordTongue$Scope", "program", "LWordTongue$Program;", true)
  | 1 => ("WordTongue$Scope", "names", "LWordTongue$Ints;", true)
  | 2 => ("WordTongue$Scope", "kinds", "LWordTongue$Ints;", true)
  | 3 => ("WordTongue$Scope", "datas", "LWordTongue$Ints;", true)
  | 4 => ("WordTongue$Scope", "owners", "LWordTongue$Ints;", true)
  | 5 => ("WordTongue$Scope", "places", "LWordTongue$Ints;", true)
  | 6 => ("WordTongue$Scope", "marks", "LWordTongue$Ints;", true)
  | _ => ("WordTongue$Scope", "floor", "I", false)
def tyX9 : Nat → FieldType := fun k => match k with
  | 0 => .object "WordTongue$Program"
  | 1 => .object "WordTongue$Ints"
  | 2 => .object "WordTongue$Ints"
  | 3 => .object "WordTongue$Ints"
  | 4 => .object "WordTongue$Ints"
  | 5 => .object "WordTongue$Ints"
  | 6 => .object "WordTongue$Ints"
  | _ => .int
abbrev wsX90 : List Cond := u_ws RX9 TX9 8
theorem nmX9 : ∀ a, a < 8 → ∀ b, b < 8 → a ≠ b → (TX9 a).2.1 ≠ (TX9 b).2.1 := by decide +kernel
theorem tyX9_ok : ∀ k, k < 8 → parseFieldDescriptor (TX9 k).2.2.1 = some (tyX9 k) := by decide +kernel
abbrev cX9_init : ByteArray := prog_11_method_1_code
def yX9_init : MethodName := ⟨RX9, "<init>", "(LWordTongue$Program;)V"⟩
abbrev cX9_clear : ByteArray := prog_11_method_2_code
def yX9_clear : MethodName := ⟨RX9, "clear", "()V"⟩
abbrev cX9_cut : ByteArray := prog_11_method_3_code
def yX9_cut : MethodName := ⟨RX9, "cut", "(I)V"⟩
abbrev cX9_put : ByteArray := prog_11_method_4_code
def yX9_put : MethodName := ⟨RX9, "put", "(IIIII)I"⟩
abbrev cX9_open : ByteArray := prog_11_method_5_code
def yX9_open : MethodName := ⟨RX9, "open", "()V"⟩
abbrev cX9_close : ByteArray := prog_11_method_6_code
def yX9_close : MethodName := ⟨RX9, "close", "()V"⟩
abbrev cX9_declare : ByteArray := prog_11_method_7_code
def yX9_declare : MethodName := ⟨RX9, "declare", "(IIIII)I"⟩
abbrev cX9_find : ByteArray := prog_11_method_8_code
def yX9_find : MethodName := ⟨RX9, "find", "(I)I"⟩
abbrev cX9_kind : ByteArray := prog_11_method_9_code
def yX9_kind : MethodName := ⟨RX9, "kind", "(I)I"⟩
abbrev cX9_data : ByteArray := prog_11_method_10_code
def yX9_data : MethodName := ⟨RX9, "data", "(I)I"⟩
abbrev cX9_owner : ByteArray := prog_11_method_11_code
def yX9_owner : MethodName := ⟨RX9, "owner", "(I)I"⟩
abbrev cX9_place : ByteArray := prog_11_method_12_code
def yX9_place : MethodName := ⟨RX9, "place", "(I)I"⟩
abbrev cX9_setData : ByteArray := prog_11_method_13_code
def yX9_setData : MethodName := ⟨RX9, "setData", "(II)V"⟩
abbrev cX9_setOwner : ByteArray := prog_11_method_14_code
def yX9_setOwner : MethodName := ⟨RX9, "setOwner", "(II)V"⟩
def RX10 : String := "WordTongue$Tree"
def TX10 : u_T := fun k => match k with
  | 0 => ("WordTongue$Tree", "kinds", "LWordTongue$Ints;", true)
  | 1 => ("WordTongue$Tree", "places", "LWordTongue$Ints;", true)
  | 2 => ("WordTongue$Tree", "datas", "LWordTongue$Ints;", true)
  | 3 => ("WordTongue$Tree", "extras", "LWordTongue$Ints;", true)
  | 4 => ("WordTongue$Tree", "firsts", "LWordTongue$Ints;", true)
  | 5 => ("WordTongue$Tree", "lasts", "LWordTongue$Ints;", true)
  | _ => ("WordTongue$Tree", "nexts", "LWordTongue$Ints;", true)
def tyX10 : Nat → FieldType := fun k => match k with
  | 0 => .object "WordTongue$Ints"
  | 1 => .object "WordTongue$Ints"
  | 2 => .object "WordTongue$Ints"
  | 3 => .object "WordTongue$Ints"
  | 4 => .object "WordTongue$Ints"
  | 5 => .object "WordTongue$Ints"
  | _ => .object "WordTongue$Ints"
abbrev wsX100 : List Cond := u_ws RX10 TX10 7
theorem nmX10 : ∀ a, a < 7 → ∀ b, b < 7 → a ≠ b → (TX10 a).2.1 ≠ (TX10 b).2.1 := by decide +kernel
theorem tyX10_ok : ∀ k, k < 7 → parseFieldDescriptor (TX10 k).2.2.1 = some (tyX10 k) := by decide +kernel
abbrev cX10_init : ByteArray := prog_12_method_1_code
def yX10_init : MethodName := ⟨RX10, "<init>", "()V"⟩
abbrev cX10_clear : ByteArray := prog_12_method_2_code
def yX10_clear : MethodName := ⟨RX10, "clear", "()V"⟩
abbrev cX10_node : ByteArray := prog_12_method_3_code
def yX10_node : MethodName := ⟨RX10, "node", "(III)I"⟩
abbrev cX10_hang : ByteArray := prog_12_method_4_code
def yX10_hang : MethodName := ⟨RX10, "hang", "(II)V"⟩
abbrev cX10_kind : ByteArray := prog_12_method_5_code
def yX10_kind : MethodName := ⟨RX10, "kind", "(I)I"⟩
abbrev cX10_place : ByteArray := prog_12_method_6_code
def yX10_place : MethodName := ⟨RX10, "place", "(I)I"⟩
abbrev cX10_data : ByteArray := prog_12_method_7_code
def yX10_data : MethodName := ⟨RX10, "data", "(I)I"⟩
abbrev cX10_extra : ByteArray := prog_12_method_8_code
def yX10_extra : MethodName := ⟨RX10, "extra", "(I)I"⟩
abbrev cX10_first : ByteArray := prog_12_method_9_code
def yX10_first : MethodName := ⟨RX10, "first", "(I)I"⟩
abbrev cX10_last : ByteArray := prog_12_method_10_code
def yX10_last : MethodName := ⟨RX10, "last", "(I)I"⟩
abbrev cX10_next : ByteArray := prog_12_method_11_code
def yX10_next : MethodName := ⟨RX10, "next", "(I)I"⟩
abbrev cX10_setKind : ByteArray := prog_12_method_12_code
def yX10_setKind : MethodName := ⟨RX10, "setKind", "(II)V"⟩
abbrev cX10_setData : ByteArray := prog_12_method_13_code
def yX10_setData : MethodName := ⟨RX10, "setData", "(II)V"⟩
abbrev cX10_setExtra : ByteArray := prog_12_method_14_code
def yX10_setExtra : MethodName := ⟨RX10, "setExtra", "(II)V"⟩
def RX11 : String := "WordTongue"
def TX11 : u_T := fun k => match k with
  | 0 => ("WordTongue", "tape", "LWordTongue$Ints;", true)
  | 1 => ("WordTongue", "program", "LWordTongue$Program;", true)
  | 2 => ("WordTongue", "tree", "LWordTongue$Tree;", true)
  | 3 => ("WordTongue", "scanner", "LWordTongue$Scanner;", true)
  | 4 => ("WordTongue", "parser", "LWordTongue$Parser;", true)
  | 5 => ("WordTongue", "coder", "LWordTongue$Coder;", true)
  | 6 => ("WordTongue", "channels", "LWordTongue$Channels;", true)
  | 7 => ("WordTongue", "machine", "LWordTongue$Machine;", true)
  | 8 => ("WordTongue", "storeWords", "I", false)
  | _ => ("WordTongue", "goodWords", "I", false)
def tyX11 : Nat → FieldType := fun k => match k with
  | 0 => .object "WordTongue$Ints"
  | 1 => .object "WordTongue$Program"
  | 2 => .object "WordTongue$Tree"
  | 3 => .object "WordTongue$Scanner"
  | 4 => .object "WordTongue$Parser"
  | 5 => .object "WordTongue$Coder"
  | 6 => .object "WordTongue$Channels"
  | 7 => .object "WordTongue$Machine"
  | 8 => .int
  | _ => .int
abbrev wsX110 : List Cond := u_ws RX11 TX11 10
theorem nmX11 : ∀ a, a < 10 → ∀ b, b < 10 → a ≠ b → (TX11 a).2.1 ≠ (TX11 b).2.1 := by decide +kernel
theorem tyX11_ok : ∀ k, k < 10 → parseFieldDescriptor (TX11 k).2.2.1 = some (tyX11 k) := by decide +kernel
abbrev cX11_init : ByteArray := prog_1_method_1_code
def yX11_init : MethodName := ⟨RX11, "<init>", "()V"⟩
abbrev cX11_feed : ByteArray := prog_1_method_2_code
def yX11_feed : MethodName := ⟨RX11, "feed", "(IIIII)Z"⟩
abbrev cX11_addBytes : ByteArray := prog_1_method_3_code
def yX11_addBytes : MethodName := ⟨RX11, "addBytes", "(I)V"⟩
abbrev cX11_end : ByteArray := prog_1_method_4_code
def yX11_end : MethodName := ⟨RX11, "end", "(I)Z"⟩
abbrev cX11_compile : ByteArray := prog_1_method_5_code
def yX11_compile : MethodName := ⟨RX11, "compile", "()I"⟩
abbrev cX11_fault : ByteArray := prog_1_method_6_code
def yX11_fault : MethodName := ⟨RX11, "fault", "()I"⟩
abbrev cX11_store : ByteArray := prog_1_method_7_code
def yX11_store : MethodName := ⟨RX11, "store", "(I)Z"⟩
abbrev cX11_input : ByteArray := prog_1_method_8_code
def yX11_input : MethodName := ⟨RX11, "input", "(I)I"⟩
abbrev cX11_run : ByteArray := prog_1_method_9_code
def yX11_run : MethodName := ⟨RX11, "run", "(I)I"⟩
abbrev cX11_value : ByteArray := prog_1_method_10_code
def yX11_value : MethodName := ⟨RX11, "value", "()I"⟩
abbrev cX11_out : ByteArray := prog_1_method_11_code
def yX11_out : MethodName := ⟨RX11, "out", "(I)I"⟩
abbrev cX11_outAt : ByteArray := prog_1_method_12_code
def yX11_outAt : MethodName := ⟨RX11, "outAt", "(II)I"⟩
abbrev cX11_word : ByteArray := prog_1_method_13_code
def yX11_word : MethodName := ⟨RX11, "word", "(I)I"⟩
abbrev cX11_fuel : ByteArray := prog_1_method_14_code
def yX11_fuel : MethodName := ⟨RX11, "fuel", "()I"⟩
abbrev cX11_worked : ByteArray := prog_1_method_15_code
def yX11_worked : MethodName := ⟨RX11, "worked", "(III)I"⟩
abbrev cX11_holds : ByteArray := prog_1_method_16_code
def yX11_holds : MethodName := ⟨RX11, "holds", "(III)Z"⟩
abbrev cX11_power : ByteArray := prog_1_method_17_code
def yX11_power : MethodName := ⟨RX11, "power", "(I)I"⟩
abbrev cX11_isRelation : ByteArray := prog_1_method_18_code
def yX11_isRelation : MethodName := ⟨RX11, "isRelation", "(I)Z"⟩
abbrev cX11_isDivision : ByteArray := prog_1_method_19_code
def yX11_isDivision : MethodName := ⟨RX11, "isDivision", "(I)Z"⟩
def RX12 : String := "WordTongueModel"
def TX12 : u_T := fun k => match k with
  | 0 => ("WordTongueModel", "thrownCode", "I", false)
  | 1 => ("WordTongueModel", "tape", "[B", true)
  | 2 => ("WordTongueModel", "tapeLen", "I", false)
  | 3 => ("WordTongueModel", "src", "[B", true)
  | 4 => ("WordTongueModel", "srcLen", "I", false)
  | 5 => ("WordTongueModel", "names", "I", false)
  | 6 => ("WordTongueModel", "nameAt", "[I", true)
  | 7 => ("WordTongueModel", "nameLen", "[I", true)
  | 8 => ("WordTongueModel", "tokens", "I", false)
  | 9 => ("WordTongueModel", "tKind", "[I", true)
  | 10 => ("WordTongueModel", "tAt", "[I", true)
  | 11 => ("WordTongueModel", "tValue", "[I", true)
  | 12 => ("WordTongueModel", "faultOf", "I", false)
  | 13 => ("WordTongueModel", "faultAt", "I", false)
  | 14 => ("WordTongueModel", "strs", "[B", true)
  | 15 => ("WordTongueModel", "strsLen", "I", false)
  | 16 => ("WordTongueModel", "strAt", "[I", true)
  | 17 => ("WordTongueModel", "strLen", "[I", true)
  | 18 => ("WordTongueModel", "strCount", "I", false)
  | 19 => ("WordTongueModel", "line", "I", false)
  | 20 => ("WordTongueModel", "lastLine", "I", false)
  | 21 => ("WordTongueModel", "cValue", "I", false)
  | 22 => ("WordTongueModel", "number", "I", false)
  | 23 => ("WordTongueModel", "signLen", "I", false)
  | 24 => ("WordTongueModel", "nodes", "I", false)
  | 25 => ("WordTongueModel", "nKind", "[B", true)
  | 26 => ("WordTongueModel", "nTok", "[I", true)
  | 27 => ("WordTongueModel", "nChild", "[I", true)
  | 28 => ("WordTongueModel", "nNext", "[I", true)
  | 29 => ("WordTongueModel", "nA", "[I", true)
  | 30 => ("WordTongueModel", "nB", "[I", true)
  | 31 => ("WordTongueModel", "nC", "[I", true)
  | 32 => ("WordTongueModel", "nPair", "[I", true)
  | 33 => ("WordTongueModel", "nRel", "[I", true)
  | 34 => ("WordTongueModel", "nFirst", "[I", true)
  | 35 => ("WordTongueModel", "nParen", "[Z", true)
  | 36 => ("WordTongueModel", "out", "[I", true)
  | 37 => ("WordTongueModel", "outs", "I", false)
  | 38 => ("WordTongueModel", "goals", "I", false)
  | 39 => ("WordTongueModel", "gKind", "[I", true)
  | 40 => ("WordTongueModel", "gX", "[I", true)
  | 41 => ("WordTongueModel", "gY", "[I", true)
  | 42 => ("WordTongueModel", "gZ", "[I", true)
  | 43 => ("WordTongueModel", "at", "I", false)
  | 44 => ("WordTongueModel", "depth", "I", false)
  | 45 => ("WordTongueModel", "sections", "I", false)
  | 46 => ("WordTongueModel", "secTag", "[I", true)
  | 47 => ("WordTongueModel", "secDepth", "[I", true)
  | 48 => ("WordTongueModel", "lexEnd", "I", false)
  | 49 => ("WordTongueModel", "entries", "I", false)
  | 50 => ("WordTongueModel", "eName", "[I", true)
  | 51 => ("WordTongueModel", "eKind", "[I", true)
  | 52 => ("WordTongueModel", "eValue", "[I", true)
  | 53 => ("WordTongueModel", "eState", "[I", true)
  | 54 => ("WordTongueModel", "eOther", "[I", true)
  | 55 => ("WordTongueModel", "blockBase", "I", false)
  | 56 => ("WordTongueModel", "libName", "[I", true)
  | 57 => ("WordTongueModel", "eTok", "[I", true)
  | 58 => ("WordTongueModel", "kGood", "Z", false)
  | 59 => ("WordTongueModel", "kValue", "I", false)
  | 60 => ("WordTongueModel", "walk", "[I", true)
  | 61 => ("WordTongueModel", "step", "[I", true)
  | 62 => ("WordTongueModel", "kWork", "[I", true)
  | 63 => ("WordTongueModel", "tasks", "I", false)
  | 64 => ("WordTongueModel", "cTask", "[I", true)
  | 65 => ("WordTongueModel", "cNode", "[I", true)
  | 66 => ("WordTongueModel", "cAux", "[I", true)
  | 67 => ("WordTongueModel", "saved", "I", false)
  | 68 => ("WordTongueModel", "save", "[I", true)
  | 69 => ("WordTongueModel", "routines", "I", false)
  | 70 => ("WordTongueModel", "rMax", "[I", true)
  | 71 => ("WordTongueModel", "rParams", "[I", true)
  | 72 => ("WordTongueModel", "rBody", "[I", true)
  | 73 => ("WordTongueModel", "routine", "I", false)
  | 74 => ("WordTongueModel", "inUse", "I", false)
  | 75 => ("WordTongueModel", "mostUse", "I", false)
  | 76 => ("WordTongueModel", "gives", "Z", false)
  | 77 => ("WordTongueModel", "valof", "I", false)
  | 78 => ("WordTongueModel", "valofs", "I", false)
  | 79 => ("WordTongueModel", "loops", "I", false)
  | 80 => ("WordTongueModel", "switches", "I", false)
  | 81 => ("WordTongueModel", "words", "I", false)
  | 82 => ("WordTongueModel", "start", "I", false)
  | 83 => ("WordTongueModel", "startName", "I", false)
  | 84 => ("WordTongueModel", "inits", "I", false)
  | 85 => ("WordTongueModel", "initAt", "[I", true)
  | 86 => ("WordTongueModel", "initValue", "[I", true)
  | 87 => ("WordTongueModel", "todo", "I", false)
  | 88 => ("WordTongueModel", "xTask", "[I", false)
  | 89 => ("WordTongueModel", "xNode", "[I", false)
  | 90 => ("WordTongueModel", "xAux", "[I", false)
  | 91 => ("WordTongueModel", "vals", "I", false)
  | 92 => ("WordTongueModel", "val", "[I", false)
  | 93 => ("WordTongueModel", "backB", "[I", true)
  | 94 => ("WordTongueModel", "backR", "[I", true)
  | 95 => ("WordTongueModel", "under", "I", false)
  | 96 => ("WordTongueModel", "base", "I", false)
  | 97 => ("WordTongueModel", "running", "I", false)
  | 98 => ("WordTongueModel", "store", "[I", true)
  | 99 => ("WordTongueModel", "size", "I", false)
  | 100 => ("WordTongueModel", "wanted", "I", false)
  | 101 => ("WordTongueModel", "fuelLeft", "I", false)
  | 102 => ("WordTongueModel", "ended", "Z", false)
  | 103 => ("WordTongueModel", "answer", "I", false)
  | 104 => ("WordTongueModel", "result", "I", false)
  | 105 => ("WordTongueModel", "compiled", "Z", false)
  | 106 => ("WordTongueModel", "gots", "I", false)
  | 107 => ("WordTongueModel", "gotAt", "[I", true)
  | 108 => ("WordTongueModel", "gotLen", "[I", true)
  | 109 => ("WordTongueModel", "input", "[B", true)
  | 110 => ("WordTongueModel", "runEnd", "[I", true)
  | 111 => ("WordTongueModel", "digitsFrom", "[I", true)
  | 112 => ("WordTongueModel", "inLen", "[I", true)
  | 113 => ("WordTongueModel", "inAt", "[I", true)
  | 114 => ("WordTongueModel", "inNow", "I", false)
  | 115 => ("WordTongueModel", "output", "[B", true)
  | 116 => ("WordTongueModel", "outLen", "[I", true)
  | 117 => ("WordTongueModel", "outNow", "I", false)
  | _ => ("WordTongueModel", "figures", "[B", true)
def tyX12 : Nat → FieldType := fun k => match k with
  | 0 => .int
  | 1 => .array .byte
  | 2 => .int
  | 3 => .array .byte
  | 4 => .int
  | 5 => .int
  | 6 => .array .int
  | 7 => .array .int
  | 8 => .int
  | 9 => .array .int
  | 10 => .array .int
  | 11 => .array .int
  | 12 => .int
  | 13 => .int
  | 14 => .array .byte
  | 15 => .int
  | 16 => .array .int
  | 17 => .array .int
  | 18 => .int
  | 19 => .int
  | 20 => .int
  | 21 => .int
  | 22 => .int
  | 23 => .int
  | 24 => .int
  | 25 => .array .byte
  | 26 => .array .int
  | 27 => .array .int
  | 28 => .array .int
  | 29 => .array .int
  | 30 => .array .int
  | 31 => .array .int
  | 32 => .array .int
  | 33 => .array .int
  | 34 => .array .int
  | 35 => .array .boolean
  | 36 => .array .int
  | 37 => .int
  | 38 => .int
  | 39 => .array .int
  | 40 => .array .int
  | 41 => .array .int
  | 42 => .array .int
  | 43 => .int
  | 44 => .int
  | 45 => .int
  | 46 => .array .int
  | 47 => .array .int
  | 48 => .int
  | 49 => .int
  | 50 => .array .int
  | 51 => .array .int
  | 52 => .array .int
  | 53 => .array .int
  | 54 => .array .int
  | 55 => .int
  | 56 => .array .int
  | 57 => .array .int
  | 58 => .boolean
  | 59 => .int
  | 60 => .array .int
  | 61 => .array .int
  | 62 => .array .int
  | 63 => .int
  | 64 => .array .int
  | 65 => .array .int
  | 66 => .array .int
  | 67 => .int
  | 68 => .array .int
  | 69 => .int
  | 70 => .array .int
  | 71 => .array .int
  | 72 => .array .int
  | 73 => .int
  | 74 => .int
  | 75 => .int
  | 76 => .boolean
  | 77 => .int
  | 78 => .int
  | 79 => .int
  | 80 => .int
  | 81 => .int
  | 82 => .int
  | 83 => .int
  | 84 => .int
  | 85 => .array .int
  | 86 => .array .int
  | 87 => .int
  | 88 => .array .int
  | 89 => .array .int
  | 90 => .array .int
  | 91 => .int
  | 92 => .array .int
  | 93 => .array .int
  | 94 => .array .int
  | 95 => .int
  | 96 => .int
  | 97 => .int
  | 98 => .array .int
  | 99 => .int
  | 100 => .int
  | 101 => .int
  | 102 => .boolean
  | 103 => .int
  | 104 => .int
  | 105 => .boolean
  | 106 => .int
  | 107 => .array .int
  | 108 => .array .int
  | 109 => .array .byte
  | 110 => .array .int
  | 111 => .array .int
  | 112 => .array .int
  | 113 => .array .int
  | 114 => .int
  | 115 => .array .byte
  | 116 => .array .int
  | 117 => .int
  | _ => .array .byte
abbrev wsX120 : List Cond := u_ws RX12 TX12 119
theorem nmX12 : ∀ a, a < 119 → ∀ b, b < 119 → a ≠ b → (TX12 a).2.1 ≠ (TX12 b).2.1 := by decide +kernel
theorem tyX12_ok : ∀ k, k < 119 → parseFieldDescriptor (TX12 k).2.2.1 = some (tyX12 k) := by decide +kernel
abbrev cX12_init : ByteArray := prog_14_method_1_code
def yX12_init : MethodName := ⟨RX12, "<init>", "()V"⟩
abbrev cX12_thrown : ByteArray := prog_14_method_2_code
def yX12_thrown : MethodName := ⟨RX12, "thrown", "()I"⟩
abbrev cX12_nameOf : ByteArray := prog_14_method_3_code
def yX12_nameOf : MethodName := ⟨RX12, "nameOf", "(II)I"⟩
abbrev cX12_isText : ByteArray := prog_14_method_4_code
def yX12_isText : MethodName := ⟨RX12, "isText", "(IIJJ)Z"⟩
abbrev cX12_keyword : ByteArray := prog_14_method_5_code
def yX12_keyword : MethodName := ⟨RX12, "keyword", "(II)I"⟩
abbrev cX12_isLetter : ByteArray := prog_14_method_6_code
def yX12_isLetter : MethodName := ⟨RX12, "isLetter", "(I)Z"⟩
abbrev cX12_isDigit : ByteArray := prog_14_method_7_code
def yX12_isDigit : MethodName := ⟨RX12, "isDigit", "(I)Z"⟩
abbrev cX12_isRest : ByteArray := prog_14_method_8_code
def yX12_isRest : MethodName := ⟨RX12, "isRest", "(I)Z"⟩
abbrev cX12_look : ByteArray := prog_14_method_9_code
def yX12_look : MethodName := ⟨RX12, "look", "(I)I"⟩
abbrev cX12_endsLine : ByteArray := prog_14_method_10_code
def yX12_endsLine : MethodName := ⟨RX12, "endsLine", "(I)Z"⟩
abbrev cX12_isBeginning : ByteArray := prog_14_method_11_code
def yX12_isBeginning : MethodName := ⟨RX12, "isBeginning", "(I)Z"⟩
abbrev cX12_isDoless : ByteArray := prog_14_method_12_code
def yX12_isDoless : MethodName := ⟨RX12, "isDoless", "(I)Z"⟩
abbrev cX12_token : ByteArray := prog_14_method_13_code
def yX12_token : MethodName := ⟨RX12, "token", "(III)V"⟩
abbrev cX12_oneC : ByteArray := prog_14_method_14_code
def yX12_oneC : MethodName := ⟨RX12, "oneC", "(II)I"⟩
abbrev cX12_stringAt : ByteArray := prog_14_method_15_code
def yX12_stringAt : MethodName := ⟨RX12, "stringAt", "(I)I"⟩
abbrev cX12_digits : ByteArray := prog_14_method_16_code
def yX12_digits : MethodName := ⟨RX12, "digits", "(II)I"⟩
abbrev cX12_isPair : ByteArray := prog_14_method_17_code
def yX12_isPair : MethodName := ⟨RX12, "isPair", "(III)Z"⟩
abbrev cX12_signAt : ByteArray := prog_14_method_18_code
def yX12_signAt : MethodName := ⟨RX12, "signAt", "(I)I"⟩
abbrev cX12_scan : ByteArray := prog_14_method_19_code
def yX12_scan : MethodName := ⟨RX12, "scan", "()I"⟩
abbrev cX12_one : ByteArray := prog_14_method_20_code
def yX12_one : MethodName := ⟨RX12, "one", "(II)I"⟩
abbrev cX12_node : ByteArray := prog_14_method_21_code
def yX12_node : MethodName := ⟨RX12, "node", "(III)I"⟩
abbrev cX12_leaf : ByteArray := prog_14_method_22_code
def yX12_leaf : MethodName := ⟨RX12, "leaf", "(III)V"⟩
abbrev cX12_shut : ByteArray := prog_14_method_23_code
def yX12_shut : MethodName := ⟨RX12, "shut", "(IIII)I"⟩
abbrev cX12_pairs : ByteArray := prog_14_method_24_code
def yX12_pairs : MethodName := ⟨RX12, "pairs", "(I)V"⟩
abbrev cX12_goal : ByteArray := prog_14_method_25_code
def yX12_goal : MethodName := ⟨RX12, "goal", "(IIII)V"⟩
abbrev cX12_tk : ByteArray := prog_14_method_26_code
def yX12_tk : MethodName := ⟨RX12, "tk", "()I"⟩
abbrev cX12_tkNext : ByteArray := prog_14_method_27_code
def yX12_tkNext : MethodName := ⟨RX12, "tkNext", "()I"⟩
abbrev cX12_take : ByteArray := prog_14_method_28_code
def yX12_take : MethodName := ⟨RX12, "take", "(I)Z"⟩
abbrev cX12_deeper : ByteArray := prog_14_method_29_code
def yX12_deeper : MethodName := ⟨RX12, "deeper", "()Z"⟩
abbrev cX12_isD : ByteArray := prog_14_method_30_code
def yX12_isD : MethodName := ⟨RX12, "isD", "(I)Z"⟩
abbrev cX12_openSection : ByteArray := prog_14_method_31_code
def yX12_openSection : MethodName := ⟨RX12, "openSection", "()Z"⟩
abbrev cX12_shutSection : ByteArray := prog_14_method_32_code
def yX12_shutSection : MethodName := ⟨RX12, "shutSection", "()Z"⟩
abbrev cX12_parse : ByteArray := prog_14_method_33_code
def yX12_parse : MethodName := ⟨RX12, "parse", "()Z"⟩
abbrev cX12_reach : ByteArray := prog_14_method_34_code
def yX12_reach : MethodName := ⟨RX12, "reach", "(IIII)Z"⟩
abbrev cX12_reachD : ByteArray := prog_14_method_35_code
def yX12_reachD : MethodName := ⟨RX12, "reachD", "(IIII)Z"⟩
abbrev cX12_reachP : ByteArray := prog_14_method_36_code
def yX12_reachP : MethodName := ⟨RX12, "reachP", "(I)Z"⟩
abbrev cX12_beginsE : ByteArray := prog_14_method_37_code
def yX12_beginsE : MethodName := ⟨RX12, "beginsE", "(I)Z"⟩
abbrev cX12_reachC : ByteArray := prog_14_method_38_code
def yX12_reachC : MethodName := ⟨RX12, "reachC", "(IIII)Z"⟩
abbrev cX12_labels : ByteArray := prog_14_method_39_code
def yX12_labels : MethodName := ⟨RX12, "labels", "(I)V"⟩
abbrev cX12_command : ByteArray := prog_14_method_40_code
def yX12_command : MethodName := ⟨RX12, "command", "(III)Z"⟩
abbrev cX12_levelOf : ByteArray := prog_14_method_41_code
def yX12_levelOf : MethodName := ⟨RX12, "levelOf", "(I)I"⟩
abbrev cX12_reachE : ByteArray := prog_14_method_42_code
def yX12_reachE : MethodName := ⟨RX12, "reachE", "(IIII)Z"⟩
abbrev cX12_calls : ByteArray := prog_14_method_43_code
def yX12_calls : MethodName := ⟨RX12, "calls", "(III)Z"⟩
abbrev cX12_primary : ByteArray := prog_14_method_44_code
def yX12_primary : MethodName := ⟨RX12, "primary", "(II)Z"⟩
abbrev cX12_binary : ByteArray := prog_14_method_45_code
def yX12_binary : MethodName := ⟨RX12, "binary", "(III)V"⟩
abbrev cX12_fault : ByteArray := prog_14_method_46_code
def yX12_fault : MethodName := ⟨RX12, "fault", "(II)V"⟩
abbrev cX12_place : ByteArray := prog_14_method_47_code
def yX12_place : MethodName := ⟨RX12, "place", "(I)I"⟩
abbrev cX12_means : ByteArray := prog_14_method_48_code
def yX12_means : MethodName := ⟨RX12, "means", "(I)I"⟩
abbrev cX12_entry : ByteArray := prog_14_method_49_code
def yX12_entry : MethodName := ⟨RX12, "entry", "(IIIII)I"⟩
abbrev cX12_declare : ByteArray := prog_14_method_50_code
def yX12_declare : MethodName := ⟨RX12, "declare", "(IIIIII)I"⟩
abbrev cX12_tokenOfTwice : ByteArray := prog_14_method_51_code
def yX12_tokenOfTwice : MethodName := ⟨RX12, "tokenOfTwice", "(II)I"⟩
abbrev cX12_isK : ByteArray := prog_14_method_52_code
def yX12_isK : MethodName := ⟨RX12, "isK", "(I)Z"⟩
abbrev cX12_isKName : ByteArray := prog_14_method_53_code
def yX12_isKName : MethodName := ⟨RX12, "isKName", "(I)Z"⟩
abbrev cX12_shifted : ByteArray := prog_14_method_54_code
def yX12_shifted : MethodName := ⟨RX12, "shifted", "(IIZ)I"⟩
abbrev cX12_quotient : ByteArray := prog_14_method_55_code
def yX12_quotient : MethodName := ⟨RX12, "quotient", "(II)I"⟩
abbrev cX12_remainder : ByteArray := prog_14_method_56_code
def yX12_remainder : MethodName := ⟨RX12, "remainder", "(II)I"⟩
abbrev cX12_worked : ByteArray := prog_14_method_57_code
def yX12_worked : MethodName := ⟨RX12, "worked", "(III)I"⟩
abbrev cX12_related : ByteArray := prog_14_method_58_code
def yX12_related : MethodName := ⟨RX12, "related", "(III)Z"⟩
abbrev cX12_signed : ByteArray := prog_14_method_59_code
def yX12_signed : MethodName := ⟨RX12, "signed", "(II)I"⟩
abbrev cX12_constant : ByteArray := prog_14_method_60_code
def yX12_constant : MethodName := ⟨RX12, "constant", "(I)V"⟩
abbrev cX12_later : ByteArray := prog_14_method_61_code
def yX12_later : MethodName := ⟨RX12, "later", "(II)I"⟩
abbrev cX12_task : ByteArray := prog_14_method_62_code
def yX12_task : MethodName := ⟨RX12, "task", "(III)V"⟩
abbrev cX12_put : ByteArray := prog_14_method_63_code
def yX12_put : MethodName := ⟨RX12, "put", "(I)V"⟩
abbrev cX12_pull : ByteArray := prog_14_method_64_code
def yX12_pull : MethodName := ⟨RX12, "pull", "()I"⟩
abbrev cX12_init_ : ByteArray := prog_14_method_65_code
def yX12_init_ : MethodName := ⟨RX12, "init", "(II)V"⟩
abbrev cX12_children : ByteArray := prog_14_method_66_code
def yX12_children : MethodName := ⟨RX12, "children", "(II)V"⟩
abbrev cX12_turn : ByteArray := prog_14_method_67_code
def yX12_turn : MethodName := ⟨RX12, "turn", "(I)V"⟩
abbrev cX12_library : ByteArray := prog_14_method_68_code
def yX12_library : MethodName := ⟨RX12, "library", "()V"⟩
abbrev cX12_lib : ByteArray := prog_14_method_69_code
def yX12_lib : MethodName := ⟨RX12, "lib", "(JJI)V"⟩
abbrev cX12_check : ByteArray := prog_14_method_70_code
def yX12_check : MethodName := ⟨RX12, "check", "()V"⟩
abbrev cX12_go : ByteArray := prog_14_method_71_code
def yX12_go : MethodName := ⟨RX12, "go", "(III)V"⟩
abbrev cX12_nameToken : ByteArray := prog_14_method_72_code
def yX12_nameToken : MethodName := ⟨RX12, "nameToken", "(I)I"⟩
abbrev cX12_declaration : ByteArray := prog_14_method_73_code
def yX12_declaration : MethodName := ⟨RX12, "declaration", "(I)V"⟩
abbrev cX12_letRoutines : ByteArray := prog_14_method_74_code
def yX12_letRoutines : MethodName := ⟨RX12, "letRoutines", "(I)V"⟩
abbrev cX12_routineOf : ByteArray := prog_14_method_75_code
def yX12_routineOf : MethodName := ⟨RX12, "routineOf", "(II)V"⟩
abbrev cX12_routineEnds : ByteArray := prog_14_method_76_code
def yX12_routineEnds : MethodName := ⟨RX12, "routineEnds", "(I)V"⟩
abbrev cX12_uses : ByteArray := prog_14_method_77_code
def yX12_uses : MethodName := ⟨RX12, "uses", "(I)V"⟩
abbrev cX12_varsEnd : ByteArray := prog_14_method_78_code
def yX12_varsEnd : MethodName := ⟨RX12, "varsEnd", "(I)V"⟩
abbrev cX12_blockEnds : ByteArray := prog_14_method_79_code
def yX12_blockEnds : MethodName := ⟨RX12, "blockEnds", "(I)V"⟩
abbrev cX12_beginBlock : ByteArray := prog_14_method_80_code
def yX12_beginBlock : MethodName := ⟨RX12, "beginBlock", "()V"⟩
abbrev cX12_labelsOf : ByteArray := prog_14_method_81_code
def yX12_labelsOf : MethodName := ⟨RX12, "labelsOf", "(I)V"⟩
abbrev cX12_forName : ByteArray := prog_14_method_82_code
def yX12_forName : MethodName := ⟨RX12, "forName", "(I)V"⟩
abbrev cX12_switchOf : ByteArray := prog_14_method_83_code
def yX12_switchOf : MethodName := ⟨RX12, "switchOf", "(I)V"⟩
abbrev cX12_isTwice : ByteArray := prog_14_method_84_code
def yX12_isTwice : MethodName := ⟨RX12, "isTwice", "(II)Z"⟩
abbrev cX12_part : ByteArray := prog_14_method_85_code
def yX12_part : MethodName := ⟨RX12, "part", "(I)V"⟩
abbrev cX12_commandOf : ByteArray := prog_14_method_86_code
def yX12_commandOf : MethodName := ⟨RX12, "commandOf", "(I)V"⟩
abbrev cX12_goesTo : ByteArray := prog_14_method_87_code
def yX12_goesTo : MethodName := ⟨RX12, "goesTo", "(I)V"⟩
abbrev cX12_named : ByteArray := prog_14_method_88_code
def yX12_named : MethodName := ⟨RX12, "named", "(I)I"⟩
abbrev cX12_placeOf : ByteArray := prog_14_method_89_code
def yX12_placeOf : MethodName := ⟨RX12, "placeOf", "(IZ)V"⟩
abbrev cX12_expressionOf : ByteArray := prog_14_method_90_code
def yX12_expressionOf : MethodName := ⟨RX12, "expressionOf", "(I)V"⟩
abbrev cX12_string : ByteArray := prog_14_method_91_code
def yX12_string : MethodName := ⟨RX12, "string", "(I)V"⟩
abbrev cX12_longer : ByteArray := prog_14_method_92_code
def yX12_longer : MethodName := ⟨RX12, "longer", "([I)[I"⟩
abbrev cX12_todoTask : ByteArray := prog_14_method_93_code
def yX12_todoTask : MethodName := ⟨RX12, "todoTask", "(III)V"⟩
abbrev cX12_err : ByteArray := prog_14_method_94_code
def yX12_err : MethodName := ⟨RX12, "err", "(I)V"⟩
abbrev cX12_burns : ByteArray := prog_14_method_95_code
def yX12_burns : MethodName := ⟨RX12, "burns", "()Z"⟩
abbrev cX12_push : ByteArray := prog_14_method_96_code
def yX12_push : MethodName := ⟨RX12, "push", "(I)V"⟩
abbrev cX12_pop : ByteArray := prog_14_method_97_code
def yX12_pop : MethodName := ⟨RX12, "pop", "()I"⟩
abbrev cX12_read : ByteArray := prog_14_method_98_code
def yX12_read : MethodName := ⟨RX12, "read", "(J)I"⟩
abbrev cX12_write : ByteArray := prog_14_method_99_code
def yX12_write : MethodName := ⟨RX12, "write", "(JI)V"⟩
abbrev cX12_wordOf : ByteArray := prog_14_method_100_code
def yX12_wordOf : MethodName := ⟨RX12, "wordOf", "(I)I"⟩
abbrev cX12_evaluate : ByteArray := prog_14_method_101_code
def yX12_evaluate : MethodName := ⟨RX12, "evaluate", "(I)V"⟩
abbrev cX12_turnTodo : ByteArray := prog_14_method_102_code
def yX12_turnTodo : MethodName := ⟨RX12, "turnTodo", "(I)V"⟩
abbrev cX12_address : ByteArray := prog_14_method_103_code
def yX12_address : MethodName := ⟨RX12, "address", "(I)V"⟩
abbrev cX12_bin : ByteArray := prog_14_method_104_code
def yX12_bin : MethodName := ⟨RX12, "bin", "(I)V"⟩
abbrev cX12_rel : ByteArray := prog_14_method_105_code
def yX12_rel : MethodName := ⟨RX12, "rel", "(II)V"⟩
abbrev cX12_limit : ByteArray := prog_14_method_106_code
def yX12_limit : MethodName := ⟨RX12, "limit", "()I"⟩
abbrev cX12_enter : ByteArray := prog_14_method_107_code
def yX12_enter : MethodName := ⟨RX12, "enter", "(III)V"⟩
abbrev cX12_call : ByteArray := prog_14_method_108_code
def yX12_call : MethodName := ⟨RX12, "call", "(II)V"⟩
abbrev cX12_arg : ByteArray := prog_14_method_109_code
def yX12_arg : MethodName := ⟨RX12, "arg", "(II)I"⟩
abbrev cX12_outByte : ByteArray := prog_14_method_110_code
def yX12_outByte : MethodName := ⟨RX12, "outByte", "(I)V"⟩
abbrev cX12_decimal : ByteArray := prog_14_method_111_code
def yX12_decimal : MethodName := ⟨RX12, "decimal", "(II)V"⟩
abbrev cX12_nextByte : ByteArray := prog_14_method_112_code
def yX12_nextByte : MethodName := ⟨RX12, "nextByte", "()I"⟩
abbrev cX12_peek : ByteArray := prog_14_method_113_code
def yX12_peek : MethodName := ⟨RX12, "peek", "()I"⟩
abbrev cX12_readNumber : ByteArray := prog_14_method_114_code
def yX12_readNumber : MethodName := ⟨RX12, "readNumber", "()I"⟩
abbrev cX12_isBlank : ByteArray := prog_14_method_115_code
def yX12_isBlank : MethodName := ⟨RX12, "isBlank", "(I)Z"⟩
abbrev cX12_rowsOf : ByteArray := prog_14_method_116_code
def yX12_rowsOf : MethodName := ⟨RX12, "rowsOf", "(I)V"⟩
abbrev cX12_writeString : ByteArray := prog_14_method_117_code
def yX12_writeString : MethodName := ⟨RX12, "writeString", "(I)V"⟩
abbrev cX12_getVector : ByteArray := prog_14_method_118_code
def yX12_getVector : MethodName := ⟨RX12, "getVector", "(I)I"⟩
abbrev cX12_layVector : ByteArray := prog_14_method_119_code
def yX12_layVector : MethodName := ⟨RX12, "layVector", "(IJJI)I"⟩
abbrev cX12_freeVector : ByteArray := prog_14_method_120_code
def yX12_freeVector : MethodName := ⟨RX12, "freeVector", "(I)V"⟩
abbrev cX12_toVector : ByteArray := prog_14_method_121_code
def yX12_toVector : MethodName := ⟨RX12, "toVector", "(III)V"⟩
abbrev cX12_libraryCall : ByteArray := prog_14_method_122_code
def yX12_libraryCall : MethodName := ⟨RX12, "libraryCall", "(III)V"⟩
abbrev cX12_perform : ByteArray := prog_14_method_123_code
def yX12_perform : MethodName := ⟨RX12, "perform", "(I)V"⟩
abbrev cX12_assign : ByteArray := prog_14_method_124_code
def yX12_assign : MethodName := ⟨RX12, "assign", "(II)V"⟩
abbrev cX12_stores : ByteArray := prog_14_method_125_code
def yX12_stores : MethodName := ⟨RX12, "stores", "(I)V"⟩
abbrev cX12_loop : ByteArray := prog_14_method_126_code
def yX12_loop : MethodName := ⟨RX12, "loop", "(II)V"⟩
abbrev cX12_isStep : ByteArray := prog_14_method_127_code
def yX12_isStep : MethodName := ⟨RX12, "isStep", "(III)Z"⟩
abbrev cX12_asked : ByteArray := prog_14_method_128_code
def yX12_asked : MethodName := ⟨RX12, "asked", "(I)V"⟩
abbrev cX12_section : ByteArray := prog_14_method_129_code
def yX12_section : MethodName := ⟨RX12, "section", "(II)V"⟩
abbrev cX12_variables : ByteArray := prog_14_method_130_code
def yX12_variables : MethodName := ⟨RX12, "variables", "(I)V"⟩
abbrev cX12_choose : ByteArray := prog_14_method_131_code
def yX12_choose : MethodName := ⟨RX12, "choose", "(I)V"⟩
abbrev cX12_doNext : ByteArray := prog_14_method_132_code
def yX12_doNext : MethodName := ⟨RX12, "doNext", "()V"⟩
abbrev cX12_returns : ByteArray := prog_14_method_133_code
def yX12_returns : MethodName := ⟨RX12, "returns", "(II)V"⟩
abbrev cX12_feed : ByteArray := prog_14_method_134_code
def yX12_feed : MethodName := ⟨RX12, "feed", "(IIIII)Z"⟩
abbrev cX12_end : ByteArray := prog_14_method_135_code
def yX12_end : MethodName := ⟨RX12, "end", "(I)Z"⟩
abbrev cX12_compile : ByteArray := prog_14_method_136_code
def yX12_compile : MethodName := ⟨RX12, "compile", "()I"⟩
abbrev cX12_fault_ : ByteArray := prog_14_method_137_code
def yX12_fault_ : MethodName := ⟨RX12, "fault", "()I"⟩
abbrev cX12_store : ByteArray := prog_14_method_138_code
def yX12_store : MethodName := ⟨RX12, "store", "(I)Z"⟩
abbrev cX12_input : ByteArray := prog_14_method_139_code
def yX12_input : MethodName := ⟨RX12, "input", "(I)I"⟩
abbrev cX12_run : ByteArray := prog_14_method_140_code
def yX12_run : MethodName := ⟨RX12, "run", "(I)I"⟩
abbrev cX12_value : ByteArray := prog_14_method_141_code
def yX12_value : MethodName := ⟨RX12, "value", "()I"⟩
abbrev cX12_out : ByteArray := prog_14_method_142_code
def yX12_out : MethodName := ⟨RX12, "out", "(I)I"⟩
abbrev cX12_outAt : ByteArray := prog_14_method_143_code
def yX12_outAt : MethodName := ⟨RX12, "outAt", "(II)I"⟩
abbrev cX12_word : ByteArray := prog_14_method_144_code
def yX12_word : MethodName := ⟨RX12, "word", "(I)I"⟩
abbrev cX12_fuel : ByteArray := prog_14_method_145_code
def yX12_fuel : MethodName := ⟨RX12, "fuel", "()I"⟩
def RJx145de : String := "java/io/Serializable"
def TJx145de : u_T := fun k => match k with
  | _ => ("", "", "", false)
def tyJx145de : Nat → FieldType := fun k => match k with
  | _ => .int
abbrev wsJx145de0 : List Cond := u_ws RJx145de TJx145de 0
theorem nmJx145de : ∀ a, a < 0 → ∀ b, b < 0 → a ≠ b → (TJx145de a).2.1 ≠ (TJx145de b).2.1 := by decide +kernel
theorem tyJx145de_ok : ∀ k, k < 0 → parseFieldDescriptor (TJx145de k).2.2.1 = some (tyJx145de k) := by decide +kernel
def RJx9f9b0 : String := "java/lang/CharSequence"
def TJx9f9b0 : u_T := fun k => match k with
  | _ => ("", "", "", false)
def tyJx9f9b0 : Nat → FieldType := fun k => match k with
  | _ => .int
abbrev wsJx9f9b00 : List Cond := u_ws RJx9f9b0 TJx9f9b0 0
theorem nmJx9f9b0 : ∀ a, a < 0 → ∀ b, b < 0 → a ≠ b → (TJx9f9b0 a).2.1 ≠ (TJx9f9b0 b).2.1 := by decide +kernel
theorem tyJx9f9b0_ok : ∀ k, k < 0 → parseFieldDescriptor (TJx9f9b0 k).2.2.1 = some (tyJx9f9b0 k) := by decide +kernel
def RJx8e188 : String := "java/lang/Cloneable"
def TJx8e188 : u_T := fun k => match k with
  | _ => ("", "", "", false)
def tyJx8e188 : Nat → FieldType := fun k => match k with
  | _ => .int
abbrev wsJx8e1880 : List Cond := u_ws RJx8e188 TJx8e188 0
theorem nmJx8e188 : ∀ a, a < 0 → ∀ b, b < 0 → a ≠ b → (TJx8e188 a).2.1 ≠ (TJx8e188 b).2.1 := by decide +kernel
theorem tyJx8e188_ok : ∀ k, k < 0 → parseFieldDescriptor (TJx8e188 k).2.2.1 = some (tyJx8e188 k) := by decide +kernel
def RJxb160c : String := "java/lang/Comparable"
def TJxb160c : u_T := fun k => match k with
  | _ => ("", "", "", false)
def tyJxb160c : Nat → FieldType := fun k => match k with
  | _ => .int
abbrev wsJxb160c0 : List Cond := u_ws RJxb160c TJxb160c 0
theorem nmJxb160c : ∀ a, a < 0 → ∀ b, b < 0 → a ≠ b → (TJxb160c a).2.1 ≠ (TJxb160c b).2.1 := by decide +kernel
theorem tyJxb160c_ok : ∀ k, k < 0 → parseFieldDescriptor (TJxb160c k).2.2.1 = some (tyJxb160c k) := by decide +kernel
def RJ6 : String := "java/lang/Integer"
def TJ6 : u_T := fun k => match k with
  | _ => ("", "", "", false)
def tyJ6 : Nat → FieldType := fun k => match k with
  | _ => .int
abbrev wsJ60 : List Cond := u_ws RJ6 TJ6 0
theorem nmJ6 : ∀ a, a < 0 → ∀ b, b < 0 → a ≠ b → (TJ6 a).2.1 ≠ (TJ6 b).2.1 := by decide +kernel
theorem tyJ6_ok : ∀ k, k < 0 → parseFieldDescriptor (TJ6 k).2.2.1 = some (tyJ6 k) := by decide +kernel
abbrev cJ6_bitCount_0f7a4 : ByteArray := prog_21_method_49_code
def yJ6_bitCount_0f7a4 : MethodName := ⟨RJ6, "bitCount", "(I)I"⟩
def RJ9 : String := "java/lang/Math"
def TJ9 : u_T := fun k => match k with
  | _ => ("", "", "", false)
def tyJ9 : Nat → FieldType := fun k => match k with
  | _ => .int
abbrev wsJ90 : List Cond := u_ws RJ9 TJ9 0
theorem nmJ9 : ∀ a, a < 0 → ∀ b, b < 0 → a ≠ b → (TJ9 a).2.1 ≠ (TJ9 b).2.1 := by decide +kernel
theorem tyJ9_ok : ∀ k, k < 0 → parseFieldDescriptor (TJ9 k).2.2.1 = some (tyJ9 k) := by decide +kernel
abbrev cJ9_abs_067f4 : ByteArray := prog_22_method_61_code
def yJ9_abs_067f4 : MethodName := ⟨RJ9, "abs", "(J)J"⟩
abbrev cJ9_max_7cf53 : ByteArray := prog_22_method_65_code
def yJ9_max_7cf53 : MethodName := ⟨RJ9, "max", "(II)I"⟩
abbrev cJ9_min_7cf53 : ByteArray := prog_22_method_69_code
def yJ9_min_7cf53 : MethodName := ⟨RJ9, "min", "(II)I"⟩
abbrev cJ9_min_f86c9 : ByteArray := prog_22_method_70_code
def yJ9_min_f86c9 : MethodName := ⟨RJ9, "min", "(JJ)J"⟩
def RJ0 : String := "java/lang/String"
def TJ0 : u_T := fun k => match k with
  | _ => ("", "", "", false)
def tyJ0 : Nat → FieldType := fun k => match k with
  | _ => .int
abbrev wsJ00 : List Cond := u_ws RJ0 TJ0 0
theorem nmJ0 : ∀ a, a < 0 → ∀ b, b < 0 → a ≠ b → (TJ0 a).2.1 ≠ (TJ0 b).2.1 := by decide +kernel
theorem tyJ0_ok : ∀ k, k < 0 → parseFieldDescriptor (TJ0 k).2.2.1 = some (tyJ0 k) := by decide +kernel
abbrev cJ0_length_8abf5 : ByteArray := prog_24_method_54_code
def yJ0_length_8abf5 : MethodName := ⟨RJ0, "length", "()I"⟩
abbrev cJ0_charAt_5068e : ByteArray := prog_24_method_56_code
def yJ0_charAt_5068e : MethodName := ⟨RJ0, "charAt", "(I)C"⟩
abbrev cJ0_coder_7d493 : ByteArray := prog_24_method_152_code
def yJ0_coder_7d493 : MethodName := ⟨RJ0, "coder", "()B"⟩
abbrev cJ0_isLatin1_aae02 : ByteArray := prog_24_method_154_code
def yJ0_isLatin1_aae02 : MethodName := ⟨RJ0, "isLatin1", "()Z"⟩
abbrev cJ0_checkIndex_df160 : ByteArray := prog_24_method_155_code
def yJ0_checkIndex_df160 : MethodName := ⟨RJ0, "checkIndex", "(II)V"⟩
def RJ1 : String := "java/lang/StringLatin1"
def TJ1 : u_T := fun k => match k with
  | _ => ("", "", "", false)
def tyJ1 : Nat → FieldType := fun k => match k with
  | _ => .int
abbrev wsJ10 : List Cond := u_ws RJ1 TJ1 0
theorem nmJ1 : ∀ a, a < 0 → ∀ b, b < 0 → a ≠ b → (TJ1 a).2.1 ≠ (TJ1 b).2.1 := by decide +kernel
theorem tyJ1_ok : ∀ k, k < 0 → parseFieldDescriptor (TJ1 k).2.2.1 = some (tyJ1 k) := by decide +kernel
abbrev cJ1_charAt_3b067 : ByteArray := prog_25_method_2_code
def yJ1_charAt_3b067 : MethodName := ⟨RJ1, "charAt", "([BI)C"⟩
def RJ2 : String := "java/lang/StringUTF16"
def TJ2 : u_T := fun k => match k with
  | _ => ("", "", "", false)
def tyJ2 : Nat → FieldType := fun k => match k with
  | _ => .int
abbrev wsJ20 : List Cond := u_ws RJ2 TJ2 0
theorem nmJ2 : ∀ a, a < 0 → ∀ b, b < 0 → a ≠ b → (TJ2 a).2.1 ≠ (TJ2 b).2.1 := by decide +kernel
theorem tyJ2_ok : ∀ k, k < 0 → parseFieldDescriptor (TJ2 k).2.2.1 = some (tyJ2 k) := by decide +kernel
abbrev cJ2_getChar_3b067 : ByteArray := prog_26_method_5_code
def yJ2_getChar_3b067 : MethodName := ⟨RJ2, "getChar", "([BI)C"⟩
abbrev cJ2_length_9d52b : ByteArray := prog_26_method_6_code
def yJ2_length_9d52b : MethodName := ⟨RJ2, "length", "([B)I"⟩
abbrev cJ2_charAt_3b067 : ByteArray := prog_26_method_83_code
def yJ2_charAt_3b067 : MethodName := ⟨RJ2, "charAt", "([BI)C"⟩
abbrev cJ2_checkIndex_2214a : ByteArray := prog_26_method_91_code
def yJ2_checkIndex_2214a : MethodName := ⟨RJ2, "checkIndex", "(I[B)V"⟩
def RJ10 : String := "java/lang/System"
def TJ10 : u_T := fun k => match k with
  | _ => ("", "", "", false)
def tyJ10 : Nat → FieldType := fun k => match k with
  | _ => .int
abbrev wsJ100 : List Cond := u_ws RJ10 TJ10 0
theorem nmJ10 : ∀ a, a < 0 → ∀ b, b < 0 → a ≠ b → (TJ10 a).2.1 ≠ (TJ10 b).2.1 := by decide +kernel
theorem tyJ10_ok : ∀ k, k < 0 → parseFieldDescriptor (TJ10 k).2.2.1 = some (tyJ10 k) := by decide +kernel
def RJxfd54e : String := "java/lang/constant/Constable"
def TJxfd54e : u_T := fun k => match k with
  | _ => ("", "", "", false)
def tyJxfd54e : Nat → FieldType := fun k => match k with
  | _ => .int
abbrev wsJxfd54e0 : List Cond := u_ws RJxfd54e TJxfd54e 0
theorem nmJxfd54e : ∀ a, a < 0 → ∀ b, b < 0 → a ≠ b → (TJxfd54e a).2.1 ≠ (TJxfd54e b).2.1 := by decide +kernel
theorem tyJxfd54e_ok : ∀ k, k < 0 → parseFieldDescriptor (TJxfd54e k).2.2.1 = some (tyJxfd54e k) := by decide +kernel
def RJx3cf43 : String := "java/lang/constant/ConstantDesc"
def TJx3cf43 : u_T := fun k => match k with
  | _ => ("", "", "", false)
def tyJx3cf43 : Nat → FieldType := fun k => match k with
  | _ => .int
abbrev wsJx3cf430 : List Cond := u_ws RJx3cf43 TJx3cf43 0
theorem nmJx3cf43 : ∀ a, a < 0 → ∀ b, b < 0 → a ≠ b → (TJx3cf43 a).2.1 ≠ (TJx3cf43 b).2.1 := by decide +kernel
theorem tyJx3cf43_ok : ∀ k, k < 0 → parseFieldDescriptor (TJx3cf43 k).2.2.1 = some (tyJx3cf43 k) := by decide +kernel
def RJ7 : String := "java/util/Arrays"
def TJ7 : u_T := fun k => match k with
  | _ => ("", "", "", false)
def tyJ7 : Nat → FieldType := fun k => match k with
  | _ => .int
abbrev wsJ70 : List Cond := u_ws RJ7 TJ7 0
theorem nmJ7 : ∀ a, a < 0 → ∀ b, b < 0 → a ≠ b → (TJ7 a).2.1 ≠ (TJ7 b).2.1 := by decide +kernel
theorem tyJ7_ok : ∀ k, k < 0 → parseFieldDescriptor (TJ7 k).2.2.1 = some (tyJ7 k) := by decide +kernel
abbrev cJ7_fill_53178 : ByteArray := prog_31_method_103_code
def yJ7_fill_53178 : MethodName := ⟨RJ7, "fill", "([II)V"⟩
abbrev cJ7_copyOf_59c91 : ByteArray := prog_31_method_123_code
def yJ7_copyOf_59c91 : MethodName := ⟨RJ7, "copyOf", "([II)[I"⟩
def RJ3 : String := "jdk/internal/util/Preconditions"
def TJ3 : u_T := fun k => match k with
  | _ => ("", "", "", false)
def tyJ3 : Nat → FieldType := fun k => match k with
  | _ => .int
abbrev wsJ30 : List Cond := u_ws RJ3 TJ3 0
theorem nmJ3 : ∀ a, a < 0 → ∀ b, b < 0 → a ≠ b → (TJ3 a).2.1 ≠ (TJ3 b).2.1 := by decide +kernel
theorem tyJ3_ok : ∀ k, k < 0 → parseFieldDescriptor (TJ3 k).2.2.1 = some (tyJ3 k) := by decide +kernel
abbrev cJ3_checkIndex_8e157 : ByteArray := prog_33_method_11_code
def yJ3_checkIndex_8e157 : MethodName := ⟨RJ3, "checkIndex", "(IILjava/util/function/BiFunction;)I"⟩
def RL : String := "WordTongueLaw"
abbrev cL_outAt : ByteArray := method_3_code
def yL_outAt : MethodName := ⟨RL, "outAt", "(LWordTongue;II[J)I"⟩
abbrev cL_word : ByteArray := method_4_code
def yL_word : MethodName := ⟨RL, "word", "(LWordTongue;I[J)I"⟩
abbrev cL_law : ByteArray := code
def yL_law : MethodName := ⟨RL, "law", "([I)Z"⟩
abbrev vwCl : List vw_C := [(RX0, TX0, 5), (RX1, TX1, 19), (RX2, TX2, 7), (RX3, TX3, 2), (RX4, TX4, 3), (RX5, TX5, 16), (RX6, TX6, 12), (RX7, TX7, 11), (RX8, TX8, 11), (RX9, TX9, 8), (RX10, TX10, 7), (RX11, TX11, 10), (RX12, TX12, 119)]
end
section
def gWs : List Cond := lw_tbl.filter goodWord
theorem gWs_good : ∀ w ∈ gWs, goodWord w = true := fun _ h => (List.mem_filter.mp h).2
theorem gWs_tbl : ∀ w ∈ gWs, w ∈ lw_tbl := fun _ h => (List.mem_filter.mp h).1
theorem gWm {w : Cond} (i : Nat) (h : lw_tbl[i]? = some w) (hg : goodWord w = true) : w ∈ gWs := List.mem_filter.mpr ⟨List.mem_of_getElem? h, hg⟩
theorem gw_oi : Cond.instanceMethod objectInit ∈ gWs := gWm 270 (by decide +kernel) rfl
theorem gw_oc : Cond.code objectInit ⟨#[0xb1]⟩ 1 none ∈ gWs := gWm 271 (by decide +kernel) rfl
end
section
/-! THE LAYER OF ONE POOL. The whole world of a claim is one map F from addresses to cells (gH d b F H: what F tells lies in H, from b on, and nothing that F doesn't tell is told); a walk's state is F, the room used, pc, locals by place, the stack (gG); a contract speaks of F alone (gMi, gMv, ..). -/
abbrev gX : Type := Program × Launch × Env × Room × State × MethodId × Array Value × List Frame × Method × Code
abbrev gX.pr (X : gX) : Program := X.1
abbrev gX.la (X : gX) : Launch := X.2.1
abbrev gX.en (X : gX) : Env := X.2.2.1
abbrev gX.rm (X : gX) : Room := X.2.2.2.1
abbrev gX.st (X : gX) : State := X.2.2.2.2.1
abbrev gX.mi (X : gX) : MethodId := X.2.2.2.2.2.1
abbrev gX.ar (X : gX) : Array Value := X.2.2.2.2.2.2.1
abbrev gX.be (X : gX) : List Frame := X.2.2.2.2.2.2.2.1
abbrev gX.me (X : gX) : Method := X.2.2.2.2.2.2.2.2.1
abbrev gX.co (X : gX) : Code := X.2.2.2.2.2.2.2.2.2
abbrev gW (X : gX) (H : Heap) (locs : List Loc) (k n : Nat) (Q : State → Prop) (g : JFrame) : Prop := W X.pr X.la X.en X.rm X.st X.mi X.ar X.be X.me X.co H locs k n Q g
/-- what is fixed for a claim: the classes' numbers and slots; the array classes' numbers (int, byte, boolean, long, Ints); the String constants' addresses and those of their bytes -/
abbrev gD : Type := va_G × (ClassId × ClassId × ClassId × ClassId × ClassId) × (Nat → Nat) × (Nat → Nat)
abbrev gI (d : gD) : ClassId := d.2.1.1
abbrev gY (d : gD) : ClassId := d.2.1.2.1
abbrev gZ (d : gD) : ClassId := d.2.1.2.2.1
abbrev gJ (d : gD) : ClassId := d.2.1.2.2.2.1
abbrev gO (d : gD) : ClassId := d.2.1.2.2.2.2
abbrev gtys (d : gD) : List (ClassId × FieldType) := [(gI d, .int), (gY d, .byte), (gZ d, .boolean), (gJ d, .long), (gO d, .object RX4)]
def gK (d : gD) (U : State) : Prop := va_K d.1 vwCl (gtys d) U
abbrev gM : Type := Nat → va_E
/-- where nothing is told -/
def g0 : va_E := .inr (0, [])
def gH (d : gD) (b : Nat) (F : gM) (H : Heap) : Prop := ∃ L : List Nat, va_P d.1 vwCl (va_pl L F) H ∧ va_D (fun q => b ≤ q) (va_pl L F) ∧ ∀ a, a ∉ L → F a = g0
def gL (lv : List (Option Value)) (ls : Array Slot) : Prop := ls.size = lv.length ∧ lv_wf ls ∧ ∀ (i : Nat) (v : Value), lv[i]? = some (some v) → ls[i]? = some (.val v)
/-- THE JUDGEMENT -/
def gG (X : gX) (d : gD) (b : Nat) (Q : State → Prop) (F : gM) (k n pc : Nat) (lv : List (Option Value)) (st : List Value) : Prop :=
  ∀ (H : Heap) (locs : List Loc) (ls : Array Slot), gH d b F H → va_S (fun q => b ≤ q) X.st.heap H locs → gL lv ls → gW X H locs k n Q (F0 X.mi pc ls st)

theorem gH.mem {d : gD} {b : Nat} {F : gM} {H : Heap} {L : List Nat} (h : ∀ a, a ∉ L → F a = g0) {a : Nat} (hn : F a ≠ g0) : a ∈ L := Classical.not_not.mp fun q => hn (h a q)
theorem g0_o {ci : Nat} {v : Value} {fs : List Value} : (.inr (ci, v :: fs) : va_E) ≠ g0 := fun h => by cases h
theorem g0_a {x : ClassId × vp_A} : (.inl x : va_E) ≠ g0 := fun h => by cases h
theorem gH.at {d : gD} {b : Nat} {F : gM} {H : Heap} {L : List Nat} (h : ∀ a, a ∉ L → F a = g0) {a : Nat} {e : va_E} (he : F a = e) (hn : e ≠ g0) : ∃ k : Nat, a ∈ L ∧ (va_pl L F)[k]? = some (a, e) := by
  have hm : a ∈ L := gH.mem (d := d) (b := b) (H := H) h (by rw [he]; exact hn)
  obtain ⟨k, hk⟩ := va_pl_get (X := []) (f := F) hm
  rw [List.nil_append] at hk
  exact ⟨k, hm, by rw [hk, he]⟩
theorem gH.lt {d : gD} {b : Nat} {F : gM} {H : Heap} (h : gH d b F H) {a : Nat} (hn : F a ≠ g0) : a < H.size := by
  obtain ⟨L, hP, hD, h0⟩ := h
  exact va_pl_lt (X := []) (by rw [List.nil_append]; exact hP) (gH.mem (d := d) (b := b) (H := H) h0 hn)
theorem gH.ge {d : gD} {b : Nat} {F : gM} {H : Heap} (h : gH d b F H) {a : Nat} (hn : F a ≠ g0) : b ≤ a := by
  obtain ⟨L, hP, hD, h0⟩ := h
  obtain ⟨k, hm, hk⟩ := gH.at (d := d) (b := b) (H := H) h0 (rfl : F a = F a) hn
  exact hD.2 k _ hk
/-- a cell is set -/
theorem gH.set {d : gD} {b : Nat} {F : gM} {H1 : Heap} {L : List Nat} {a k : Nat} {e0 e : va_E} (h0 : ∀ a, a ∉ L → F a = g0) (hm : a ∈ L) (hD : va_D (fun q => b ≤ q) (va_pl L F)) (hk : (va_pl L F)[k]? = some (a, e0)) (he : F a = e0)
    (hP1 : va_P d.1 vwCl ((va_pl L F).set k (a, e)) H1) (hD1 : va_D (fun q => b ≤ q) ((va_pl L F).set k (a, e))) : gH d b (va_up F a e) H1 := by
  have hs : (va_pl L F).set k (a, e) = va_pl L (va_up F a e) := by
    have h := va_pl_set (A := fun q => b ≤ q) (X := []) (L := L) (f := F) (a := a) (k := k) (e := e) (by rw [List.nil_append]; exact hD) hm (by rw [List.nil_append, hk, he])
    rw [List.nil_append, List.nil_append] at h
    exact h
  rw [hs] at hP1 hD1
  exact ⟨L, hP1, hD1, fun q hq => by rw [va_up_ne _ _ (fun z => hq (by rw [z]; exact hm))]; exact h0 q hq⟩
/-- a cell is new -/
theorem gH.push {d : gD} {b : Nat} {F : gM} {H1 : Heap} {L : List Nat} {q : Nat} {e : va_E} (h0 : ∀ a, a ∉ L → F a = g0)
    (hP1 : va_P d.1 vwCl (va_pl L F ++ [(q, e)]) H1) (hD1 : va_D (fun q => b ≤ q) (va_pl L F ++ [(q, e)])) : F q = g0 ∧ gH d b (va_up F q e) H1 := by
  have hq : q ∉ L := va_pl_fresh2 (A := fun q => b ≤ q) (X := []) (f := F) (e := e) (by rw [List.nil_append]; exact hD1)
  rw [va_pl_push hq] at hP1 hD1
  refine ⟨h0 q hq, L ++ [q], hP1, hD1, fun a ha => ?_⟩
  rw [List.mem_append, List.mem_singleton, not_or] at ha
  rw [va_up_ne _ _ ha.2]
  exact h0 a ha.1

-- locals by place
def gA (lv : List (Option Value)) : List (Nat × Value) := (List.range lv.length).filterMap (fun i => (lv[i]?.join).map (fun v => (i, v)))
theorem gA_mem {lv : List (Option Value)} {q : Nat × Value} (h : q ∈ gA lv) : lv[q.1]? = some (some q.2) := by
  obtain ⟨i, -, hi⟩ := List.mem_filterMap.mp h
  cases hj : lv[i]?.join with
  | none => rw [hj] at hi; cases hi
  | some v =>
    rw [hj] at hi
    cases hi
    exact Option.join_eq_some_iff.mp hj
theorem gA_of {lv : List (Option Value)} {i : Nat} {v : Value} (h : lv[i]? = some (some v)) : (i, v) ∈ gA lv :=
  List.mem_filterMap.mpr ⟨i, List.mem_range.mpr (List.getElem?_eq_some_iff.mp h).1, by rw [h]; rfl⟩
theorem gL.has {lv : List (Option Value)} {ls : Array Slot} (h : gL lv ls) : lv_has ls lv.length (gA lv) := ⟨h.1, h.2.1, fun q hq => h.2.2 q.1 q.2 (gA_mem hq)⟩
theorem gL.at {lv : List (Option Value)} {ls : Array Slot} (h : gL lv ls) {i : Nat} {v : Value} (hv : lv[i]? = some (some v)) : ls[i]? = some (.val v) := h.2.2 i v hv
def gOk (lv : List (Option Value)) : Nat → Bool
  | 0 => true
  | j + 1 => match lv[j]? with
    | some (some w) => w.category != 2
    | _ => true
theorem gOk_ne {lv : List (Option Value)} {i j : Nat} {w : Value} (h : gOk lv i = true) (hj : j + 1 = i) (hw : lv[j]? = some (some w)) : (w.category == 2) = false := by
  subst hj
  simp only [gOk, hw] at h
  simpa using h
theorem gL.st1 {lv : List (Option Value)} {ls : Array Slot} {i : Nat} {v : Value} (hok : gOk lv i = true) (h : lv_has ls lv.length ((i, v) :: (gA lv).filter (fun q => !(q.1 == i) && !(q.1 + 1 == i && q.2.category == 2)))) : gL (lv.set i (some v)) ls := by
  refine ⟨by rw [List.length_set]; exact h.1, h.2.1, fun j w hw => ?_⟩
  by_cases hj : i = j
  · subst hj
    rw [List.getElem?_set_self'] at hw
    cases hl : lv[i]? with
    | none => rw [hl] at hw; cases hw
    | some z => rw [hl] at hw; cases hw; exact h.2.2 (i, v) List.mem_cons_self
  · rw [List.getElem?_set_ne hj] at hw
    refine h.2.2 (j, w) (List.mem_cons_of_mem _ (List.mem_filter.mpr ⟨gA_of hw, ?_⟩))
    have h1 : (j == i) = false := by simpa using fun q => hj q.symm
    by_cases h2 : j + 1 = i
    · simp [h1, gOk_ne hok h2 hw]
    · have h3 : (j + 1 == i) = false := by simpa using h2
      simp [h1, h3]
theorem gL.st2 {lv : List (Option Value)} {ls : Array Slot} {i : Nat} {v : Value} (hok : gOk lv i = true) (h : lv_has ls lv.length ((i, v) :: (gA lv).filter (fun q => !(q.1 == i) && (!(q.1 == i + 1) && !(q.1 + 1 == i && q.2.category == 2))))) : gL ((lv.set i (some v)).set (i + 1) none) ls := by
  refine ⟨by rw [List.length_set, List.length_set]; exact h.1, h.2.1, fun j w hw => ?_⟩
  by_cases hj2 : i + 1 = j
  · subst hj2
    rw [List.getElem?_set_self'] at hw
    cases hl : (lv.set i (some v))[i + 1]? with
    | none => rw [hl] at hw; cases hw
    | some z => rw [hl] at hw; cases hw
  · rw [List.getElem?_set_ne hj2] at hw
    by_cases hj : i = j
    · subst hj
      rw [List.getElem?_set_self'] at hw
      cases hl : lv[i]? with
      | none => rw [hl] at hw; cases hw
      | some z => rw [hl] at hw; cases hw; exact h.2.2 (i, v) List.mem_cons_self
    · rw [List.getElem?_set_ne hj] at hw
      refine h.2.2 (j, w) (List.mem_cons_of_mem _ (List.mem_filter.mpr ⟨gA_of hw, ?_⟩))
      have h1 : (j == i) = false := by simpa using fun q => hj q.symm
      have h4 : (j == i + 1) = false := by simpa using fun q => hj2 q.symm
      by_cases h2 : j + 1 = i
      · simp [h1, h4, gOk_ne hok h2 hw]
      · have h3 : (j + 1 == i) = false := by simpa using h2
        simp [h1, h3, h4]
theorem gL.sub {lv lv' : List (Option Value)} {ls : Array Slot} (h : gL lv ls) (hs : lv'.length = lv.length) (hi : ∀ (i : Nat) (v : Value), lv'[i]? = some (some v) → lv[i]? = some (some v)) : gL lv' ls := ⟨h.1.trans hs.symm, h.2.1, fun i v hv => h.2.2 i v (hi i v hv)⟩
/-- locals let go -/
def gSubB : List (Option Value) → List (Option Value) → Prop
  | [], [] => True
  | none :: r, _ :: r' => gSubB r r'
  | some v :: r, w :: r' => w = some v ∧ gSubB r r'
  | _, _ => False
theorem gSubB.ok : ∀ {lv' lv : List (Option Value)}, gSubB lv' lv → lv'.length = lv.length ∧ ∀ (i : Nat) (v : Value), lv'[i]? = some (some v) → lv[i]? = some (some v)
  | [], [], _ => ⟨rfl, fun _ _ h => h⟩
  | none :: r, w :: r', h => by
    obtain ⟨h1, h2⟩ := gSubB.ok (lv' := r) (lv := r') h
    refine ⟨by simp [h1], fun i v hv => ?_⟩
    cases i with
    | zero => cases hv
    | succ i => exact h2 i v hv
  | some v :: r, w :: r', h => by
    obtain ⟨h1, h2⟩ := gSubB.ok (lv' := r) (lv := r') h.2
    refine ⟨by simp [h1], fun i u hu => ?_⟩
    cases i with
    | zero => rw [h.1]; exact hu
    | succ i => exact h2 i u hu

-- what a claim's world has beside its cells: nest mates, String constants, statics
abbrev gNs : List (String × Nat × MethodName × String) := [("WordTongue", 20, ⟨"WordTongue$Program","<init>","()V"⟩, "WordTongue"), ("WordTongue", 27, ⟨"WordTongue$Tree","<init>","()V"⟩, "WordTongue"), ("WordTongue", 61, ⟨"WordTongue$Channels","<init>","()V"⟩, "WordTongue"), ("WordTongue$Machine", 11, ⟨"WordTongue$Heap","<init>","()V"⟩, "WordTongue"), ("WordTongue$Parser", 246, ⟨"WordTongue","power","(I)I"⟩, "WordTongue"), ("WordTongue$Parser", 252, ⟨"WordTongue","isRelation","(I)Z"⟩, "WordTongue"), ("WordTongue$Constants", 84, ⟨"WordTongue","isRelation","(I)Z"⟩, "WordTongue"), ("WordTongue$Constants", 117, ⟨"WordTongue","holds","(III)Z"⟩, "WordTongue"), ("WordTongue$Constants", 121, ⟨"WordTongue","isDivision","(I)Z"⟩, "WordTongue"), ("WordTongue$Constants", 124, ⟨"WordTongue","worked","(III)I"⟩, "WordTongue"), ("WordTongue$Coder", 304, ⟨"WordTongue","isRelation","(I)Z"⟩, "WordTongue"), ("WordTongue$Machine", 178, ⟨"WordTongue","holds","(III)Z"⟩, "WordTongue"), ("WordTongue$Machine", 182, ⟨"WordTongue","isDivision","(I)Z"⟩, "WordTongue"), ("WordTongue$Machine", 185, ⟨"WordTongue","isRelation","(I)Z"⟩, "WordTongue"), ("WordTongue$Machine", 188, ⟨"WordTongue","worked","(III)I"⟩, "WordTongue")]
abbrev gCs : List (String × String) := [("[I", "java/lang/Cloneable"), ("java/lang/IllegalStateException", "java/lang/IllegalStateException"), ("java/util/NoSuchElementException", "java/util/NoSuchElementException"), ("WordTongue", "java/lang/Object"), ("WordTongue$Ints", "java/lang/Object"), ("WordTongue$Program", "java/lang/Object"), ("WordTongue$Tree", "java/lang/Object"), ("WordTongue$Scanner", "java/lang/Object"), ("WordTongue$Parser", "java/lang/Object"), ("WordTongue$Coder", "java/lang/Object"), ("WordTongue$Scope", "java/lang/Object"), ("WordTongue$Constants", "java/lang/Object"), ("WordTongue$Channels", "java/lang/Object"), ("WordTongue$Machine", "java/lang/Object"), ("WordTongue$Heap", "java/lang/Object"), ("WordTongueModel", "java/lang/Object"), ("java/lang/IllegalStateException", "java/lang/Object"), ("java/util/NoSuchElementException", "java/lang/Object"), ("java/lang/Throwable", "java/lang/Object"), ("java/lang/String", "java/lang/Object")]
abbrev gDs : List MethodName := [⟨"java/lang/RuntimeException","<init>","()V"⟩, ⟨"java/lang/RuntimeException","<init>","(Ljava/lang/String;)V"⟩, ⟨"java/lang/Exception","<init>","()V"⟩, ⟨"java/lang/Exception","<init>","(Ljava/lang/String;)V"⟩, ⟨"java/lang/Throwable","<init>","()V"⟩, ⟨"java/lang/Throwable","<init>","(Ljava/lang/String;)V"⟩]
abbrev gSr : List (String × Nat × String) := [("WordTongue$Scanner", 50, "TRUE FALSE VALOF TABLE IF UNLESS TEST WHILE UNTIL FOR SWITCHON CASE DEFAULT BREAK LOOP ENDCASE RETURN RESULTIS FINISH GOTO LET GLOBAL MANIFEST STATIC "), ("WordTongue$Scanner", 56, "GET AND BE VEC THEN DO OR ELSE TO BY INTO REPEAT REPEATWHILE REPEATUNTIL EQV NEQV REM NOT "), ("WordTongue$Scanner", 58, "WRITEN WRITES WRCH NEWLINE RDCH STOP ABS UNRDCH SELECTINPUT SELECTOUTPUT REWIND GETVEC FREEVEC APTOVEC MULDIV WRITED WRITEHEX READN "), ("WordTongue$Scanner", 60, "START "), ("WordTongue$Parser", 92, "a token can't stand there")]
def gByt : List (List Int32) := [[84, 82, 85, 69, 32, 70, 65, 76, 83, 69, 32, 86, 65, 76, 79, 70, 32, 84, 65, 66, 76, 69, 32, 73, 70, 32, 85, 78, 76, 69, 83, 83, 32, 84, 69, 83, 84, 32, 87, 72, 73, 76, 69, 32, 85, 78, 84, 73, 76, 32, 70, 79, 82, 32, 83, 87, 73, 84, 67, 72, 79, 78, 32, 67, 65, 83, 69, 32, 68, 69, 70, 65, 85, 76, 84, 32, 66, 82, 69, 65, 75, 32, 76, 79, 79, 80, 32, 69, 78, 68, 67, 65, 83, 69, 32, 82, 69, 84, 85, 82, 78, 32, 82, 69, 83, 85, 76, 84, 73, 83, 32, 70, 73, 78, 73, 83, 72, 32, 71, 79, 84, 79, 32, 76, 69, 84, 32, 71, 76, 79, 66, 65, 76, 32, 77, 65, 78, 73, 70, 69, 83, 84, 32, 83, 84, 65, 84, 73, 67, 32], [71, 69, 84, 32, 65, 78, 68, 32, 66, 69, 32, 86, 69, 67, 32, 84, 72, 69, 78, 32, 68, 79, 32, 79, 82, 32, 69, 76, 83, 69, 32, 84, 79, 32, 66, 89, 32, 73, 78, 84, 79, 32, 82, 69, 80, 69, 65, 84, 32, 82, 69, 80, 69, 65, 84, 87, 72, 73, 76, 69, 32, 82, 69, 80, 69, 65, 84, 85, 78, 84, 73, 76, 32, 69, 81, 86, 32, 78, 69, 81, 86, 32, 82, 69, 77, 32, 78, 79, 84, 32], [87, 82, 73, 84, 69, 78, 32, 87, 82, 73, 84, 69, 83, 32, 87, 82, 67, 72, 32, 78, 69, 87, 76, 73, 78, 69, 32, 82, 68, 67, 72, 32, 83, 84, 79, 80, 32, 65, 66, 83, 32, 85, 78, 82, 68, 67, 72, 32, 83, 69, 76, 69, 67, 84, 73, 78, 80, 85, 84, 32, 83, 69, 76, 69, 67, 84, 79, 85, 84, 80, 85, 84, 32, 82, 69, 87, 73, 78, 68, 32, 71, 69, 84, 86, 69, 67, 32, 70, 82, 69, 69, 86, 69, 67, 32, 65, 80, 84, 79, 86, 69, 67, 32, 77, 85, 76, 68, 73, 86, 32, 87, 82, 73, 84, 69, 68, 32, 87, 82, 73, 84, 69, 72, 69, 88, 32, 82, 69, 65, 68, 78, 32], [83, 84, 65, 82, 84, 32], [97, 32, 116, 111, 107, 101, 110, 32, 99, 97, 110, 39, 116, 32, 115, 116, 97, 110, 100, 32, 116, 104, 101, 114, 101]]
def gLen : List Nat := [150, 90, 132, 6, 25]
def gE (d : gD) (b : Nat) (U : State) : Prop :=
  (∀ w ∈ gNs, va_Nw (.methodLinkNest w.1 w.2.1 w.2.2.1 w.2.2.2) U) ∧ va_AO RX4 U ∧ vk_S 5 gLen gByt d.2.2.1 d.2.2.2 (fun q => b ≤ q) U U.heap ∧ (∀ (i : Nat) (w : String × Nat × String), gSr[i]? = some w → vk_R w.1 w.2.1 w.2.2 (d.2.2.1 i) U)
  ∧ va_Z "java/lang/String" "COMPACT_STRINGS" "Z" (.int 1) (fun q => b ≤ q) U U.heap ∧ vx_Zq Bundle.tN "UNASSIGNED_STACK" Bundle.steD (fun q => b ≤ q) U U.heap ∧ vx_Zq Bundle.tN "SUPPRESSED_SENTINEL" Bundle.listD (fun q => b ≤ q) U U.heap ∧ (∀ q ∈ gCs, va_Nw (.castable q.1 q.2) U) ∧ ∀ x ∈ gDs, va_Nw (.declares x) U
def gV (d : gD) (b : Nat) (U : State) : Prop := b ≤ U.heap.size ∧ gK d U ∧ gE d b U
theorem gV.moved {d : gD} {b : Nat} {s U : State} (h : gV d b s) (hW : s.WarmedH U.vm) (hz : s.heap.size ≤ U.heap.size) (hk : ∀ q : Nat, q < s.heap.size → ¬ b ≤ q → U.heap[q]? = s.heap[q]?) : gV d b U := by
  obtain ⟨h1, h2, h3, h4, h5, h6, h7, h8, h9, h10, h11⟩ := h
  have hvm : s.vm.Alike U.vm := hW.alike
  exact ⟨Nat.le_trans h1 hz, va_K.moved hvm h2, fun w hw => va_Nw.warmM hW (h3 w hw), h4.moved hvm, (h5.moved hvm).kept hk, fun i w hw => (h6 i w hw).warm hW, (h7.moved hvm).kept hk, (h8.moved hvm).kept hk, (h9.moved hvm).kept hk, fun q hq => va_Nw.warmC hW (h10 q hq), fun x hx => va_Nw.warmD hW (h11 x hx)⟩
theorem gV.vm {d : gD} {b : Nat} {U T : State} (h : gV d b U) (hv : T.vm = U.vm) (hh : T.heap = U.heap) : gV d b T := by
  obtain ⟨h1, h2, h3, h4, h5, h6, h7, h8, h9, h10, h11⟩ := h
  have hvm : U.vm.Alike T.vm := by rw [hv]; exact Vm.Alike.refl U.vm
  refine ⟨by rw [hh]; exact h1, va_K.moved hvm h2, fun w hw => va_Nw.same rfl hv.symm (h3 w hw), h4.moved hvm, ?_, fun i w hw => (h6 i w hw).same hv, ?_, ?_, ?_, fun q hq => va_Nw.same rfl hv.symm (h10 q hq), fun x hx => va_Nw.same rfl hv.symm (h11 x hx)⟩ <;> rw [hh]
  · exact h5.moved hvm
  · exact h7.moved hvm
  · exact h8.moved hvm
  · exact h9.moved hvm
/-- a contract's world -/
def gB (d : gD) (b : Nat) (F : gM) (U : State) : Prop := gV d b U ∧ gH d b F U.heap
theorem gB.blind {d : gD} {b : Nat} {F : gM} {av : List Value} : FrameBlind (va_Pc av (gB d b F)) := fun a U g mk h => ⟨h.1, h.2.1.vm rfl rfl, h.2.2⟩

-- the context of a walk
def gC (own : String) (cc : ByteArray) (nL : Nat) (rt : Option FieldType) (nm : String) (R : Room) (d : gD) (b : Nat) (X : gX) : Prop :=
  X.pr.tables.exec = Jvm.exec ∧ X.co.code = cc ∧ X.co.maxLocals = nL ∧ X.st.vm.findClass own = some X.mi.cls ∧ (∀ w ∈ gWs, w.before X.ar X.st = true) ∧ gV d b X.st ∧ X.me.locks = false ∧ X.me.sig.returnType = rt ∧ X.me.name = nm ∧ X.rm = R
section G1
variable {own : String} {cc : ByteArray} {nL : Nat} {rt : Option FieldType} {nm : String} {R : Room} {d : gD} {b : Nat} {X : gX} {Q : State → Prop} {F : gM} {k n pc : Nat} {lv : List (Option Value)} {st : List Value}
theorem gC.hx (h : gC own cc nL rt nm R d b X) : X.pr.tables.exec = Jvm.exec := h.1
theorem gC.hb (h : gC own cc nL rt nm R d b X) : X.co.code = cc := h.2.1
theorem gC.hml (h : gC own cc nL rt nm R d b X) : X.co.maxLocals = nL := h.2.2.1
theorem gC.how (h : gC own cc nL rt nm R d b X) : X.st.vm.findClass own = some X.mi.cls := h.2.2.2.1
theorem gC.hts (h : gC own cc nL rt nm R d b X) : ∀ w ∈ gWs, w.before X.ar X.st = true := h.2.2.2.2.1
theorem gC.hv (h : gC own cc nL rt nm R d b X) : gV d b X.st := h.2.2.2.2.2.1
theorem gC.hlk (h : gC own cc nL rt nm R d b X) : X.me.locks = false := h.2.2.2.2.2.2.1
theorem gC.hrt (h : gC own cc nL rt nm R d b X) : X.me.sig.returnType = rt := h.2.2.2.2.2.2.2.1
theorem gC.hnm (h : gC own cc nL rt nm R d b X) : X.me.name = nm := h.2.2.2.2.2.2.2.2.1
theorem gC.hR (h : gC own cc nL rt nm R d b X) : X.rm = R := h.2.2.2.2.2.2.2.2.2
theorem gC.A (h : gC own cc nL rt nm R d b X) : ∀ q, X.st.heap.size ≤ q → b ≤ q := fun _ hq => Nat.le_trans h.hv.1 hq
/-- at a moment of the walk -/
theorem gC.at (h : gC own cc nL rt nm R d b X) {H : Heap} {locs : List Loc} (hS : va_S (fun q => b ≤ q) X.st.heap H locs) {U : State} (hU : U.heap = H) (hW : X.st.WarmedH U.vm) : gV d b U :=
  h.hv.moved hW (by rw [hU]; exact hS.1) (fun q h1 h2 => by rw [hU]; exact hS.2.1 q h1 h2)
theorem g_widen {k2 n2 : Nat} (h1 : k ≤ k2) (h2 : n ≤ n2) (kk : gG X d b Q F k2 n2 pc lv st) : gG X d b Q F k n pc lv st := fun H locs ls hH hS hL => W.widen h1 h2 (kk H locs ls hH hS hL)
theorem g_lv {lv' : List (Option Value)} (hs : gSubB lv' lv) (kk : gG X d b Q F k n pc lv' st) : gG X d b Q F k n pc lv st := fun H locs ls hH hS hL => kk H locs ls hH hS (hL.sub hs.ok.1 hs.ok.2)
theorem g_F {F' : gM} (h : F = F') (kk : gG X d b Q F' k n pc lv st) : gG X d b Q F k n pc lv st := h ▸ kk
theorem g_vi {x : Int32} (kk : ∀ y : Int32, y = x → gG X d b Q F k n pc lv (.int y :: st)) : gG X d b Q F k n pc lv (.int x :: st) := kk x rfl
theorem g_vl {x : Int64} (kk : ∀ y : Int64, y = x → gG X d b Q F k n pc lv (.long y :: st)) : gG X d b Q F k n pc lv (.long x :: st) := kk x rfl
theorem g_iconst (hC : gC own cc nL rt nm R d b X) {i : Int} {v : Int32} (hdg : decode cc pc = .ok (.iconst i, 1)) (hv : Int32.ofInt i = v) (kk : gG X d b Q F k n (pc + 1) lv (.int v :: st)) : gG X d b Q F k n pc lv st := fun H locs ls hH hS hL => lv_iconst hC.hx hC.hb hdg hv (kk H locs ls hH hS hL)
theorem g_bipush (hC : gC own cc nL rt nm R d b X) {i : Int} {v : Int32} (hdg : decode cc pc = .ok (.bipush i, 2)) (hv : (Int8.ofInt i).toInt32 = v) (kk : gG X d b Q F k n (pc + 2) lv (.int v :: st)) : gG X d b Q F k n pc lv st := fun H locs ls hH hS hL => lv_bipush hC.hx hC.hb hdg hv (kk H locs ls hH hS hL)
theorem g_sipush (hC : gC own cc nL rt nm R d b X) {i : Int} {v : Int32} (hdg : decode cc pc = .ok (.sipush i, 3)) (hv : (Int16.ofInt i).toInt32 = v) (kk : gG X d b Q F k n (pc + 3) lv (.int v :: st)) : gG X d b Q F k n pc lv st := fun H locs ls hH hS hL => lv_sipush hC.hx hC.hb hdg hv (kk H locs ls hH hS hL)
theorem g_lconst (hC : gC own cc nL rt nm R d b X) {i : Fin 2} {v : Int64} (hdg : decode cc pc = .ok (.lconst i, 1)) (hv : Int64.ofNat (i : Nat) = v) (kk : gG X d b Q F k n (pc + 1) lv (.long v :: st)) : gG X d b Q F k n pc lv st := fun H locs ls hH hS hL => lv_lconst hC.hx hC.hb hdg hv (kk H locs ls hH hS hL)
theorem g_ldc (hC : gC own cc nL rt nm R d b X) {i : Nat} {v : Int32} (hdg : decode cc pc = .ok (.ldc i, 2)) (hw : Cond.constant own i v ∈ gWs) (kk : gG X d b Q F k n (pc + 2) lv (.int v :: st)) : gG X d b Q F k n pc lv st := fun H locs ls hH hS hL => lv_ldc hC.hx hC.hb hC.how (hC.hts _ hw) hdg (kk H locs ls hH hS hL)
theorem g_ldcw (hC : gC own cc nL rt nm R d b X) {i : Nat} {v : Int32} (hdg : decode cc pc = .ok (.ldc_w i, 3)) (hw : Cond.constant own i v ∈ gWs) (kk : gG X d b Q F k n (pc + 3) lv (.int v :: st)) : gG X d b Q F k n pc lv st := fun H locs ls hH hS hL => lv_ldcw hC.hx hC.hb hC.how (hC.hts _ hw) hdg (kk H locs ls hH hS hL)
theorem g_ldc2 (hC : gC own cc nL rt nm R d b X) {i : Nat} {v : Int64} (hdg : decode cc pc = .ok (.ldc2_w i, 3)) (hw : Cond.constantLong own i v ∈ gWs) (kk : gG X d b Q F k n (pc + 3) lv (.long v :: st)) : gG X d b Q F k n pc lv st := fun H locs ls hH hS hL => lv_ldc2 hC.hx hC.hb hC.how (hC.hts _ hw) hdg (kk H locs ls hH hS hL)
theorem g_iload_n (hC : gC own cc nL rt nm R d b X) {i : Fin 4} {x : Int32} (hdg : decode cc pc = .ok (.iload_n i, 1)) (hl : lv[(i : Nat)]? = some (some (.int x))) (kk : gG X d b Q F k n (pc + 1) lv (.int x :: st)) : gG X d b Q F k n pc lv st := fun H locs ls hH hS hL => lv_iload_n hC.hx hC.hb hdg rfl (hL.at hl) (kk H locs ls hH hS hL)
theorem g_iload (hC : gC own cc nL rt nm R d b X) {i : Nat} {x : Int32} (hdg : decode cc pc = .ok (.iload i, 2)) (hl : lv[i]? = some (some (.int x))) (kk : gG X d b Q F k n (pc + 2) lv (.int x :: st)) : gG X d b Q F k n pc lv st := fun H locs ls hH hS hL => lv_iload hC.hx hC.hb hdg (hL.at hl) (kk H locs ls hH hS hL)
theorem g_lload_n (hC : gC own cc nL rt nm R d b X) {i : Fin 4} {x : Int64} (hdg : decode cc pc = .ok (.lload_n i, 1)) (hl : lv[(i : Nat)]? = some (some (.long x))) (kk : gG X d b Q F k n (pc + 1) lv (.long x :: st)) : gG X d b Q F k n pc lv st := fun H locs ls hH hS hL => lv_lload_n hC.hx hC.hb hdg rfl (hL.at hl) (kk H locs ls hH hS hL)
theorem g_lload (hC : gC own cc nL rt nm R d b X) {i : Nat} {x : Int64} (hdg : decode cc pc = .ok (.lload i, 2)) (hl : lv[i]? = some (some (.long x))) (kk : gG X d b Q F k n (pc + 2) lv (.long x :: st)) : gG X d b Q F k n pc lv st := fun H locs ls hH hS hL => lv_lload hC.hx hC.hb hdg (hL.at hl) (kk H locs ls hH hS hL)
theorem g_aload_n (hC : gC own cc nL rt nm R d b X) {i : Fin 4} {x : Nat} (hdg : decode cc pc = .ok (.aload_n i, 1)) (hl : lv[(i : Nat)]? = some (some (.ref x))) (kk : gG X d b Q F k n (pc + 1) lv (.ref x :: st)) : gG X d b Q F k n pc lv st := fun H locs ls hH hS hL => lv_aload_n hC.hx hC.hb hdg rfl (hL.at hl) (kk H locs ls hH hS hL)
theorem g_aload (hC : gC own cc nL rt nm R d b X) {i : Nat} {x : Nat} (hdg : decode cc pc = .ok (.aload i, 2)) (hl : lv[i]? = some (some (.ref x))) (kk : gG X d b Q F k n (pc + 2) lv (.ref x :: st)) : gG X d b Q F k n pc lv st := fun H locs ls hH hS hL => lv_aload hC.hx hC.hb hdg (hL.at hl) (kk H locs ls hH hS hL)
theorem g_aload_nN (hC : gC own cc nL rt nm R d b X) {i : Fin 4} (hdg : decode cc pc = .ok (.aload_n i, 1)) (hl : lv[(i : Nat)]? = some (some .null)) (kk : gG X d b Q F k n (pc + 1) lv (.null :: st)) : gG X d b Q F k n pc lv st := fun H locs ls hH hS hL => lv_aload_nN hC.hx hC.hb hdg rfl (hL.at hl) (kk H locs ls hH hS hL)
theorem g_aloadN (hC : gC own cc nL rt nm R d b X) {i : Nat} (hdg : decode cc pc = .ok (.aload i, 2)) (hl : lv[i]? = some (some .null)) (kk : gG X d b Q F k n (pc + 2) lv (.null :: st)) : gG X d b Q F k n pc lv st := fun H locs ls hH hS hL => lv_aloadN hC.hx hC.hb hdg (hL.at hl) (kk H locs ls hH hS hL)
theorem g_istore_n (hC : gC own cc nL rt nm R d b X) {i : Fin 4} {x : Int32} {lv' : List (Option Value)} (hdg : decode cc pc = .ok (.istore_n i, 1)) (hn : (i : Nat) < lv.length) (hok : gOk lv (i : Nat) = true) (hl : (lv.set (i : Nat) (some (.int x))) = lv') (kk : gG X d b Q F k n (pc + 1) lv' st) : gG X d b Q F k n pc lv (.int x :: st) := fun H locs ls hH hS hL => lv_istore_n (lv' := _) hC.hx hC.hb hdg rfl hL.has hn rfl (fun ls2 h2 => kk H locs ls2 hH hS (hl ▸ gL.st1 hok h2))
theorem g_istore (hC : gC own cc nL rt nm R d b X) {i : Nat} {x : Int32} {lv' : List (Option Value)} (hdg : decode cc pc = .ok (.istore i, 2)) (hn : i < lv.length) (hok : gOk lv i = true) (hl : (lv.set i (some (.int x))) = lv') (kk : gG X d b Q F k n (pc + 2) lv' st) : gG X d b Q F k n pc lv (.int x :: st) := fun H locs ls hH hS hL => lv_istore (lv' := _) hC.hx hC.hb hdg hL.has hn rfl (fun ls2 h2 => kk H locs ls2 hH hS (hl ▸ gL.st1 hok h2))
theorem g_lstore_n (hC : gC own cc nL rt nm R d b X) {i : Fin 4} {x : Int64} {lv' : List (Option Value)} (hdg : decode cc pc = .ok (.lstore_n i, 1)) (hn : (i : Nat) + 1 < lv.length) (hok : gOk lv (i : Nat) = true) (hl : ((lv.set (i : Nat) (some (.long x))).set ((i : Nat) + 1) none) = lv') (kk : gG X d b Q F k n (pc + 1) lv' st) : gG X d b Q F k n pc lv (.long x :: st) := fun H locs ls hH hS hL => lv_lstore_n (lv' := _) hC.hx hC.hb hdg rfl hL.has hn rfl (fun ls2 h2 => kk H locs ls2 hH hS (hl ▸ gL.st2 hok h2))
theorem g_lstore (hC : gC own cc nL rt nm R d b X) {i : Nat} {x : Int64} {lv' : List (Option Value)} (hdg : decode cc pc = .ok (.lstore i, 2)) (hn : i + 1 < lv.length) (hok : gOk lv i = true) (hl : ((lv.set i (some (.long x))).set (i + 1) none) = lv') (kk : gG X d b Q F k n (pc + 2) lv' st) : gG X d b Q F k n pc lv (.long x :: st) := fun H locs ls hH hS hL => lv_lstore (lv' := _) hC.hx hC.hb hdg hL.has hn rfl (fun ls2 h2 => kk H locs ls2 hH hS (hl ▸ gL.st2 hok h2))
theorem g_astore_n (hC : gC own cc nL rt nm R d b X) {i : Fin 4} {x : Nat} {lv' : List (Option Value)} (hdg : decode cc pc = .ok (.astore_n i, 1)) (hn : (i : Nat) < lv.length) (hok : gOk lv (i : Nat) = true) (hl : (lv.set (i : Nat) (some (.ref x))) = lv') (kk : gG X d b Q F k n (pc + 1) lv' st) : gG X d b Q F k n pc lv (.ref x :: st) := fun H locs ls hH hS hL => lv_astore_n (lv' := _) hC.hx hC.hb hdg rfl hL.has hn rfl (fun ls2 h2 => kk H locs ls2 hH hS (hl ▸ gL.st1 hok h2))
theorem g_astore (hC : gC own cc nL rt nm R d b X) {i : Nat} {x : Nat} {lv' : List (Option Value)} (hdg : decode cc pc = .ok (.astore i, 2)) (hn : i < lv.length) (hok : gOk lv i = true) (hl : (lv.set i (some (.ref x))) = lv') (kk : gG X d b Q F k n (pc + 2) lv' st) : gG X d b Q F k n pc lv (.ref x :: st) := fun H locs ls hH hS hL => lv_astore (lv' := _) hC.hx hC.hb hdg hL.has hn rfl (fun ls2 h2 => kk H locs ls2 hH hS (hl ▸ gL.st1 hok h2))
theorem gA_ix {lv : List (Option Value)} {i : Nat} {v : Value} (h : lv[i]? = some (some v)) : ∃ j : Nat, (gA lv)[j]? = some (i, v) := List.getElem?_of_mem (gA_of h)
theorem g_iinc (hC : gC own cc nL rt nm R d b X) {i : Nat} {z : Int} {x v : Int32} {lv' : List (Option Value)} (hdg : decode cc pc = .ok (.iinc i z, 3)) (hx : lv[i]? = some (some (.int x))) (hv : x + Int32.ofInt z = v) (hok : gOk lv i = true) (hl : lv.set i (some (.int v)) = lv') (kk : gG X d b Q F k n (pc + 3) lv' st) : gG X d b Q F k n pc lv st := fun H locs ls hH hS hL => by
  obtain ⟨j, hj⟩ := gA_ix hx
  exact lv_iinc (lv' := _) hC.hx hC.hb hdg hL.has hj hv (List.getElem?_eq_some_iff.mp hx).1 rfl (fun ls2 h2 => kk H locs ls2 hH hS (hl ▸ gL.st1 hok h2))
theorem g_iadd (hC : gC own cc nL rt nm R d b X) {x y : Int32} (hdg : decode cc pc = .ok (.iadd, 1)) (kk : gG X d b Q F k n (pc + 1) lv (.int (x + y) :: st)) : gG X d b Q F k n pc lv (.int y :: .int x :: st) := fun H locs ls hH hS hL => lv_iadd hC.hx hC.hb hdg (kk H locs ls hH hS hL)
theorem g_isub (hC : gC own cc nL rt nm R d b X) {x y : Int32} (hdg : decode cc pc = .ok (.isub, 1)) (kk : gG X d b Q F k n (pc + 1) lv (.int (x - y) :: st)) : gG X d b Q F k n pc lv (.int y :: .int x :: st) := fun H locs ls hH hS hL => lv_isub hC.hx hC.hb hdg (kk H locs ls hH hS hL)
theorem g_imul (hC : gC own cc nL rt nm R d b X) {x y : Int32} (hdg : decode cc pc = .ok (.imul, 1)) (kk : gG X d b Q F k n (pc + 1) lv (.int (x * y) :: st)) : gG X d b Q F k n pc lv (.int y :: .int x :: st) := fun H locs ls hH hS hL => lv_imul hC.hx hC.hb hdg (kk H locs ls hH hS hL)
theorem g_iand (hC : gC own cc nL rt nm R d b X) {x y : Int32} (hdg : decode cc pc = .ok (.iand, 1)) (kk : gG X d b Q F k n (pc + 1) lv (.int (x &&& y) :: st)) : gG X d b Q F k n pc lv (.int y :: .int x :: st) := fun H locs ls hH hS hL => lv_iand hC.hx hC.hb hdg (kk H locs ls hH hS hL)
theorem g_ior (hC : gC own cc nL rt nm R d b X) {x y : Int32} (hdg : decode cc pc = .ok (.ior, 1)) (kk : gG X d b Q F k n (pc + 1) lv (.int (x ||| y) :: st)) : gG X d b Q F k n pc lv (.int y :: .int x :: st) := fun H locs ls hH hS hL => lv_ior hC.hx hC.hb hdg (kk H locs ls hH hS hL)
theorem g_ixor (hC : gC own cc nL rt nm R d b X) {x y : Int32} (hdg : decode cc pc = .ok (.ixor, 1)) (kk : gG X d b Q F k n (pc + 1) lv (.int (x ^^^ y) :: st)) : gG X d b Q F k n pc lv (.int y :: .int x :: st) := fun H locs ls hH hS hL => lv_ixor hC.hx hC.hb hdg (kk H locs ls hH hS hL)
theorem g_ladd (hC : gC own cc nL rt nm R d b X) {x y : Int64} (hdg : decode cc pc = .ok (.ladd, 1)) (kk : gG X d b Q F k n (pc + 1) lv (.long (x + y) :: st)) : gG X d b Q F k n pc lv (.long y :: .long x :: st) := fun H locs ls hH hS hL => lv_ladd hC.hx hC.hb hdg (kk H locs ls hH hS hL)
theorem g_lsub (hC : gC own cc nL rt nm R d b X) {x y : Int64} (hdg : decode cc pc = .ok (.lsub, 1)) (kk : gG X d b Q F k n (pc + 1) lv (.long (x - y) :: st)) : gG X d b Q F k n pc lv (.long y :: .long x :: st) := fun H locs ls hH hS hL => lv_lsub hC.hx hC.hb hdg (kk H locs ls hH hS hL)
theorem g_lmul (hC : gC own cc nL rt nm R d b X) {x y : Int64} (hdg : decode cc pc = .ok (.lmul, 1)) (kk : gG X d b Q F k n (pc + 1) lv (.long (x * y) :: st)) : gG X d b Q F k n pc lv (.long y :: .long x :: st) := fun H locs ls hH hS hL => lv_lmul hC.hx hC.hb hdg (kk H locs ls hH hS hL)
theorem g_ineg (hC : gC own cc nL rt nm R d b X) {x : Int32} (hdg : decode cc pc = .ok (.ineg, 1)) (kk : gG X d b Q F k n (pc + 1) lv (.int (-x) :: st)) : gG X d b Q F k n pc lv (.int x :: st) := fun H locs ls hH hS hL => lv_ineg hC.hx hC.hb hdg (kk H locs ls hH hS hL)
theorem g_i2l (hC : gC own cc nL rt nm R d b X) {x : Int32} (hdg : decode cc pc = .ok (.i2l, 1)) (kk : gG X d b Q F k n (pc + 1) lv (.long x.toInt64 :: st)) : gG X d b Q F k n pc lv (.int x :: st) := fun H locs ls hH hS hL => lv_i2l hC.hx hC.hb hdg rfl (kk H locs ls hH hS hL)
theorem g_l2i (hC : gC own cc nL rt nm R d b X) {x : Int64} (hdg : decode cc pc = .ok (.l2i, 1)) (kk : gG X d b Q F k n (pc + 1) lv (.int x.toInt32 :: st)) : gG X d b Q F k n pc lv (.long x :: st) := fun H locs ls hH hS hL => lv_l2i hC.hx hC.hb hdg rfl (kk H locs ls hH hS hL)
theorem g_i2b (hC : gC own cc nL rt nm R d b X) {x : Int32} (hdg : decode cc pc = .ok (.i2b, 1)) (kk : gG X d b Q F k n (pc + 1) lv (.int x.toInt8.toInt32 :: st)) : gG X d b Q F k n pc lv (.int x :: st) := fun H locs ls hH hS hL => lv_i2b hC.hx hC.hb hdg rfl (kk H locs ls hH hS hL)
theorem g_iushr (hC : gC own cc nL rt nm R d b X) {x y : Int32} (hdg : decode cc pc = .ok (.iushr, 1)) (kk : gG X d b Q F k n (pc + 1) lv (.int (x.toUInt32 >>> (y.toUInt32 &&& Int32.toUInt32 31)).toInt32 :: st)) : gG X d b Q F k n pc lv (.int y :: .int x :: st) := fun H locs ls hH hS hL => lv_iushr hC.hx hC.hb hdg rfl (kk H locs ls hH hS hL)
theorem g_lcmp (hC : gC own cc nL rt nm R d b X) {x y : Int64} (hdg : decode cc pc = .ok (.lcmp, 1)) (kk : gG X d b Q F k n (pc + 1) lv (.int (lg_cmp x y) :: st)) : gG X d b Q F k n pc lv (.long y :: .long x :: st) := fun H locs ls hH hS hL => W.lcmp hC.hx hC.hb hdg (kk H locs ls hH hS hL)
theorem g_dup (hC : gC own cc nL rt nm R d b X) {v : Value} (hdg : decode cc pc = .ok (.dup, 1)) (hv : v.category = 1) (kk : gG X d b Q F k n (pc + 1) lv (v :: v :: st)) : gG X d b Q F k n pc lv (v :: st) := fun H locs ls hH hS hL => lv_dup hC.hx hC.hb hdg hv (kk H locs ls hH hS hL)
theorem g_pop (hC : gC own cc nL rt nm R d b X) {v : Value} (hdg : decode cc pc = .ok (.pop, 1)) (hv : v.category = 1) (kk : gG X d b Q F k n (pc + 1) lv st) : gG X d b Q F k n pc lv (v :: st) := fun H locs ls hH hS hL => lv_pop hC.hx hC.hb hdg hv (kk H locs ls hH hS hL)
theorem g_dup2 (hC : gC own cc nL rt nm R d b X) {u v : Value} (hdg : decode cc pc = .ok (.dup2, 1)) (hu : u.category = 1) (hv : v.category = 1) (kk : gG X d b Q F k n (pc + 1) lv (u :: v :: u :: v :: st)) : gG X d b Q F k n pc lv (u :: v :: st) := fun H locs ls hH hS hL => lv_dup2_11 hC.hx hC.hb hdg hu hv (kk H locs ls hH hS hL)
theorem g_dup_x1 (hC : gC own cc nL rt nm R d b X) {u v : Value} (hdg : decode cc pc = .ok (.dup_x1, 1)) (hu : u.category = 1) (hv : v.category = 1) (kk : gG X d b Q F k n (pc + 1) lv (u :: v :: u :: st)) : gG X d b Q F k n pc lv (u :: v :: st) := fun H locs ls hH hS hL => lv_dup_x1 hC.hx hC.hb hdg hu hv (kk H locs ls hH hS hL)
theorem g_if_eq (hC : gC own cc nL rt nm R d b X) {x : Int32} {off : Int} {tgt : Nat} (hdg : decode cc pc = .ok (.ifCond .eq off, 3)) (ht : (pc : Int) + off = (tgt : Int)) (kt : x = 0 → gG X d b Q F k n tgt lv st) (kf : ¬ x = 0 → gG X d b Q F k n (pc + 3) lv st) : gG X d b Q F k n pc lv (.int x :: st) := fun H locs ls hH hS hL => lv_if_eq hC.hx hC.hb hdg ht (fun q => kt q H locs ls hH hS hL) (fun q => kf q H locs ls hH hS hL)
theorem g_icmp_eq (hC : gC own cc nL rt nm R d b X) {x y : Int32} {off : Int} {tgt : Nat} (hdg : decode cc pc = .ok (.if_icmp .eq off, 3)) (ht : (pc : Int) + off = (tgt : Int)) (kt : x = y → gG X d b Q F k n tgt lv st) (kf : ¬ x = y → gG X d b Q F k n (pc + 3) lv st) : gG X d b Q F k n pc lv (.int y :: .int x :: st) := fun H locs ls hH hS hL => lv_icmp_eq hC.hx hC.hb hdg ht (fun q => kt q H locs ls hH hS hL) (fun q => kf q H locs ls hH hS hL)
theorem g_if_ne (hC : gC own cc nL rt nm R d b X) {x : Int32} {off : Int} {tgt : Nat} (hdg : decode cc pc = .ok (.ifCond .ne off, 3)) (ht : (pc : Int) + off = (tgt : Int)) (kt : ¬ x = 0 → gG X d b Q F k n tgt lv st) (kf : x = 0 → gG X d b Q F k n (pc + 3) lv st) : gG X d b Q F k n pc lv (.int x :: st) := fun H locs ls hH hS hL => lv_if_ne hC.hx hC.hb hdg ht (fun q => kt q H locs ls hH hS hL) (fun q => kf q H locs ls hH hS hL)
theorem g_icmp_ne (hC : gC own cc nL rt nm R d b X) {x y : Int32} {off : Int} {tgt : Nat} (hdg : decode cc pc = .ok (.if_icmp .ne off, 3)) (ht : (pc : Int) + off = (tgt : Int)) (kt : ¬ x = y → gG X d b Q F k n tgt lv st) (kf : x = y → gG X d b Q F k n (pc + 3) lv st) : gG X d b Q F k n pc lv (.int y :: .int x :: st) := fun H locs ls hH hS hL => lv_icmp_ne hC.hx hC.hb hdg ht (fun q => kt q H locs ls hH hS hL) (fun q => kf q H locs ls hH hS hL)
theorem g_if_lt (hC : gC own cc nL rt nm R d b X) {x : Int32} {off : Int} {tgt : Nat} (hdg : decode cc pc = .ok (.ifCond .lt off, 3)) (ht : (pc : Int) + off = (tgt : Int)) (kt : x < 0 → gG X d b Q F k n tgt lv st) (kf : ¬ x < 0 → gG X d b Q F k n (pc + 3) lv st) : gG X d b Q F k n pc lv (.int x :: st) := fun H locs ls hH hS hL => lv_if_lt hC.hx hC.hb hdg ht (fun q => kt q H locs ls hH hS hL) (fun q => kf q H locs ls hH hS hL)
theorem g_icmp_lt (hC : gC own cc nL rt nm R d b X) {x y : Int32} {off : Int} {tgt : Nat} (hdg : decode cc pc = .ok (.if_icmp .lt off, 3)) (ht : (pc : Int) + off = (tgt : Int)) (kt : x < y → gG X d b Q F k n tgt lv st) (kf : ¬ x < y → gG X d b Q F k n (pc + 3) lv st) : gG X d b Q F k n pc lv (.int y :: .int x :: st) := fun H locs ls hH hS hL => lv_icmp_lt hC.hx hC.hb hdg ht (fun q => kt q H locs ls hH hS hL) (fun q => kf q H locs ls hH hS hL)
theorem g_if_ge (hC : gC own cc nL rt nm R d b X) {x : Int32} {off : Int} {tgt : Nat} (hdg : decode cc pc = .ok (.ifCond .ge off, 3)) (ht : (pc : Int) + off = (tgt : Int)) (kt : 0 ≤ x → gG X d b Q F k n tgt lv st) (kf : ¬ 0 ≤ x → gG X d b Q F k n (pc + 3) lv st) : gG X d b Q F k n pc lv (.int x :: st) := fun H locs ls hH hS hL => lv_if_ge hC.hx hC.hb hdg ht (fun q => kt q H locs ls hH hS hL) (fun q => kf q H locs ls hH hS hL)
theorem g_icmp_ge (hC : gC own cc nL rt nm R d b X) {x y : Int32} {off : Int} {tgt : Nat} (hdg : decode cc pc = .ok (.if_icmp .ge off, 3)) (ht : (pc : Int) + off = (tgt : Int)) (kt : y ≤ x → gG X d b Q F k n tgt lv st) (kf : ¬ y ≤ x → gG X d b Q F k n (pc + 3) lv st) : gG X d b Q F k n pc lv (.int y :: .int x :: st) := fun H locs ls hH hS hL => lv_icmp_ge hC.hx hC.hb hdg ht (fun q => kt q H locs ls hH hS hL) (fun q => kf q H locs ls hH hS hL)
theorem g_if_gt (hC : gC own cc nL rt nm R d b X) {x : Int32} {off : Int} {tgt : Nat} (hdg : decode cc pc = .ok (.ifCond .gt off, 3)) (ht : (pc : Int) + off = (tgt : Int)) (kt : 0 < x → gG X d b Q F k n tgt lv st) (kf : ¬ 0 < x → gG X d b Q F k n (pc + 3) lv st) : gG X d b Q F k n pc lv (.int x :: st) := fun H locs ls hH hS hL => lv_if_gt hC.hx hC.hb hdg ht (fun q => kt q H locs ls hH hS hL) (fun q => kf q H locs ls hH hS hL)
theorem g_icmp_gt (hC : gC own cc nL rt nm R d b X) {x y : Int32} {off : Int} {tgt : Nat} (hdg : decode cc pc = .ok (.if_icmp .gt off, 3)) (ht : (pc : Int) + off = (tgt : Int)) (kt : y < x → gG X d b Q F k n tgt lv st) (kf : ¬ y < x → gG X d b Q F k n (pc + 3) lv st) : gG X d b Q F k n pc lv (.int y :: .int x :: st) := fun H locs ls hH hS hL => lv_icmp_gt hC.hx hC.hb hdg ht (fun q => kt q H locs ls hH hS hL) (fun q => kf q H locs ls hH hS hL)
theorem g_if_le (hC : gC own cc nL rt nm R d b X) {x : Int32} {off : Int} {tgt : Nat} (hdg : decode cc pc = .ok (.ifCond .le off, 3)) (ht : (pc : Int) + off = (tgt : Int)) (kt : x ≤ 0 → gG X d b Q F k n tgt lv st) (kf : ¬ x ≤ 0 → gG X d b Q F k n (pc + 3) lv st) : gG X d b Q F k n pc lv (.int x :: st) := fun H locs ls hH hS hL => lv_if_le hC.hx hC.hb hdg ht (fun q => kt q H locs ls hH hS hL) (fun q => kf q H locs ls hH hS hL)
theorem g_icmp_le (hC : gC own cc nL rt nm R d b X) {x y : Int32} {off : Int} {tgt : Nat} (hdg : decode cc pc = .ok (.if_icmp .le off, 3)) (ht : (pc : Int) + off = (tgt : Int)) (kt : x ≤ y → gG X d b Q F k n tgt lv st) (kf : ¬ x ≤ y → gG X d b Q F k n (pc + 3) lv st) : gG X d b Q F k n pc lv (.int y :: .int x :: st) := fun H locs ls hH hS hL => lv_icmp_le hC.hx hC.hb hdg ht (fun q => kt q H locs ls hH hS hL) (fun q => kf q H locs ls hH hS hL)
theorem g_goto (hC : gC own cc nL rt nm R d b X) {off : Int} {tgt : Nat} (hdg : decode cc pc = .ok (.goto off, 3)) (ht : (pc : Int) + off = (tgt : Int)) (kk : gG X d b Q F k n tgt lv st) : gG X d b Q F k n pc lv st := fun H locs ls hH hS hL => lv_goto hC.hx hC.hb hdg ht (kk H locs ls hH hS hL)
theorem g_idiv (hC : gC own cc nL rt nm R d b X) {x y : Int32} (hdg : decode cc pc = .ok (.idiv, 1)) (hne : ¬ y = 0) (kk : gG X d b Q F k n (pc + 1) lv (.int (x / y) :: st)) : gG X d b Q F k n pc lv (.int y :: .int x :: st) := fun H locs ls hH hS hL => lv_idiv hC.hx hC.hb hdg hne (kk H locs ls hH hS hL)
theorem g_lookup (hC : gC own cc nL rt nm R d b X) {dflt : Int} {ps : Array (Int × Int)} {len : Nat} {x : Int32} {off : Int} {tgt : Nat} (hdg : decode cc pc = .ok (.lookupswitch dflt ps, len)) (hp : (ps.toList.zip (ps.toList.drop 1)).all (fun (a, next) => a.1 < next.1) = true) (ho : Op.lookupswitch.offset ps.toList dflt x.toInt = off) (ht : (pc : Int) + off = (tgt : Int)) (kk : gG X d b Q F k n tgt lv st) : gG X d b Q F k n pc lv (.int x :: st) := fun H locs ls hH hS hL => lv_lookup hC.hx hC.hb hdg hp ho ht (kk H locs ls hH hS hL)
theorem g_tableOut (hC : gC own cc nL rt nm R d b X) {dflt lo hi : Int} {offs : Array Int} {len : Nat} {x : Int32} {tgt : Nat} (hdg : decode cc pc = .ok (.tableswitch dflt lo hi offs, len)) (h : x.toInt < lo ∨ hi < x.toInt) (ht : (pc : Int) + dflt = (tgt : Int)) (kk : gG X d b Q F k n tgt lv st) : gG X d b Q F k n pc lv (.int x :: st) := fun H locs ls hH hS hL => lv_tableOut hC.hx hC.hb hdg h ht (kk H locs ls hH hS hL)
theorem g_tableIn (hC : gC own cc nL rt nm R d b X) {dflt lo hi : Int} {offs : Array Int} {len : Nat} {x : Int32} {off : Int} {tgt : Nat} (hdg : decode cc pc = .ok (.tableswitch dflt lo hi offs, len)) (h1 : ¬ x.toInt < lo) (h2 : ¬ hi < x.toInt) (ho : offs[(x.toInt - lo).toNat]? = some off) (ht : (pc : Int) + off = (tgt : Int)) (kk : gG X d b Q F k n tgt lv st) : gG X d b Q F k n pc lv (.int x :: st) := fun H locs ls hH hS hL => lv_tableIn hC.hx hC.hb hdg h1 h2 ho ht (kk H locs ls hH hS hL)
theorem g_objInit (hC : gC own cc nL rt nm R d b X) {i a : Nat} (hdg : decode cc pc = .ok (.invokespecial i, 3)) (hw : Cond.methodLink own i objectInit ∈ gWs) (hn : nL = lv.length) (hR : 1 ≤ R.frames ∧ 20 ≤ R.locals) (hr : (st.map fun v => v.category).sum ≤ 8) (kk : gG X d b Q F k n (pc + 3) lv st) : gG X d b Q F k n pc lv (.ref a :: st) := fun H locs ls hH hS hL =>
  W.objInit hC.hx hC.hb hC.how (hC.hts _ hw) (hC.hts _ gw_oi) (hC.hts _ gw_oc) (g := F0 X.mi pc ls (.ref a :: st)) rfl (by rw [hC.hml, hn]; exact hL.1) rfl hdg (by rw [hC.hR]; exact hR.1) (by
    rw [hC.hR]
    show 2 * 0 + _ + 12 ≤ _
    omega) (kk H locs ls hH hS hL)
/-- a field of class ci, place j, as 'own' links it: its type, whether it is final -/
def gFL (own : String) (idx ci j : Nat) (ty : FieldType) (fin : Bool) : Prop := ∃ (C : String) (T : u_T) (N : Nat) (ty0 : Nat → FieldType), vwCl[ci]? = some (C, T, N) ∧ j < N ∧ (∀ w ∈ u_ws C T N, w ∈ gWs) ∧ Cond.fieldLink own idx (T j).1 (T j).2.1 (T j).2.2.1 ∈ gWs ∧ (∀ q, q < N → parseFieldDescriptor (T q).2.2.1 = some (ty0 q)) ∧ (∀ a, a < N → ∀ b, b < N → a ≠ b → (T a).2.1 ≠ (T b).2.1) ∧ (T j).2.2.2 = fin ∧ parseFieldDescriptor (T j).2.2.1 = some ty ∧ (fin = true → (T j).1 = own)
theorem g_get (hC : gC own cc nL rt nm R d b X) {a idx ci j : Nat} {ty : FieldType} {fin : Bool} {v0 v : Value} {fs : List Value} (hl : gFL own idx ci j ty fin) (hF : F a = .inr (ci, v0 :: fs)) (hv : (v0 :: fs)[j]? = some v) (hdg : decode cc pc = .ok (.getfield idx, 3)) (kk : gG X d b Q F k n (pc + 3) lv (v :: st)) : gG X d b Q F k n pc lv (.ref a :: st) := fun H locs ls hH hS hL => by
  obtain ⟨L, hP, hD, h0⟩ := id hH
  obtain ⟨q, hm, hq⟩ := gH.at (d := d) (b := b) (H := H) h0 hF g0_o
  obtain ⟨C, T, N, ty0, z1, z2, z3, z4, z5, z6, z7, z8, z9⟩ := hl
  exact va_get (D := d.1) hC.hx hC.hb hC.hts z3 hC.how hC.hv.2.1 hP q hq z1 j z2 (hC.hts _ z4) (fun _ h => h) hv hdg (kk H locs ls hH hS hL)
theorem g_put (hC : gC own cc nL rt nm R d b X) {a idx ci j : Nat} {ty : FieldType} {v0 v : Value} {fs : List Value} (hl : gFL own idx ci j ty false) (hF : F a = .inr (ci, v0 :: fs)) (hn : narrow ty v = v) (hfit : fits ty v = true) (hj : j < (v0 :: fs).length) (hdg : decode cc pc = .ok (.putfield idx, 3)) (kk : gG X d b Q (va_up F a (.inr (ci, (v0 :: fs).set j v))) k n (pc + 3) lv st) : gG X d b Q F k n pc lv (v :: .ref a :: st) := fun H locs ls hH hS hL => by
  obtain ⟨L, hP, hD, h0⟩ := id hH
  obtain ⟨q, hm, hq⟩ := gH.at (d := d) (b := b) (H := H) h0 hF g0_o
  obtain ⟨C, T, N, ty0, z1, z2, z3, z4, z5, z6, z7, z8, z9⟩ := hl
  exact va_put (D := d.1) hC.hx hC.hb hC.hts z3 ty0 z5 z6 hC.how hC.hv.2.1 hP hD hS q hq z1 j z2 (hC.hts _ z4) (fun _ h => h) z7 z8 hn hfit hj hdg (fun H1 locs1 hP1 hD1 hS1 => kk H1 locs1 ls (gH.set h0 hm hD hq hF hP1 hD1) hS1 hL)
theorem g_putF (hC : gC own cc nL rt "<init>" R d b X) {a idx ci j : Nat} {ty : FieldType} {v0 v : Value} {fs : List Value} (hl : gFL own idx ci j ty true) (hF : F a = .inr (ci, v0 :: fs)) (hn : narrow ty v = v) (hfit : fits ty v = true) (hj : j < (v0 :: fs).length) (hdg : decode cc pc = .ok (.putfield idx, 3)) (kk : gG X d b Q (va_up F a (.inr (ci, (v0 :: fs).set j v))) k n (pc + 3) lv st) : gG X d b Q F k n pc lv (v :: .ref a :: st) := fun H locs ls hH hS hL => by
  obtain ⟨L, hP, hD, h0⟩ := id hH
  obtain ⟨q, hm, hq⟩ := gH.at (d := d) (b := b) (H := H) h0 hF g0_o
  obtain ⟨C, T, N, ty0, z1, z2, z3, z4, z5, z6, z7, z8, z9⟩ := hl
  exact va_putF (D := d.1) hC.hx hC.hb hC.hts z3 ty0 z5 z6 hC.how hC.hv.2.1 hP hD hS q hq z1 j z2 (hC.hts _ z4) (fun _ h => h) z7 hC.hnm (z9 rfl) z8 hn hfit hj hdg (fun H1 locs1 hP1 hD1 hS1 => kk H1 locs1 ls (gH.set h0 hm hD hq hF hP1 hD1) hS1 hL)
/-- a class that can be made -/
def gNL (own : String) (idx ci : Nat) (N : Nat) (fs : List Value) : Prop := ∃ (C : String) (T : u_T) (ty0 : Nat → FieldType), vwCl[ci]? = some (C, T, N) ∧ (∀ w ∈ u_ws C T N, w ∈ gWs) ∧ (∀ q, q < N → parseFieldDescriptor (T q).2.2.1 = some (ty0 q)) ∧ Cond.classLink own idx C ∈ gWs ∧ Cond.instantiable C N ∈ gWs ∧ Cond.initialized C ∈ gWs ∧ ∀ j, j < N → defaultValue (ty0 j) = vp_V fs j
theorem g_new (hC : gC own cc nL rt nm R d b X) {idx ci N : Nat} {fs : List Value} (hl : gNL own idx ci N fs) (hk : k + 1 ≤ R.cells) (hs : n + N ≤ R.slots) (hdg : decode cc pc = .ok (.new idx, 3)) (kk : ∀ q : Nat, F q = g0 → gG X d b Q (va_up F q (.inr (ci, fs))) (k + 1) (n + N) (pc + 3) lv (.ref q :: st)) : gG X d b Q F k n pc lv st := fun H locs ls hH hS hL => by
  obtain ⟨L, hP, hD, h0⟩ := id hH
  obtain ⟨C, T, ty0, z1, z2, z3, z4, z5, z6, z7⟩ := hl
  exact va_new (D := d.1) hC.hx hC.hb hC.hts z2 ty0 z3 hC.how (hC.hts _ z4) (hC.hts _ z5) (hC.hts _ z6) hC.hv.2.1 hP hD hS hC.A z1 z7 (by rw [hC.hR]; exact hk) (by rw [hC.hR]; exact hs) hdg (fun q H1 hP1 hD1 hS1 => by
    obtain ⟨e1, e2⟩ := gH.push h0 hP1 hD1
    exact kk q e1 H1 locs ls e2 hS1 hL)
theorem g_iald (hC : gC own cc nL rt nm R d b X) {a N : Nat} {f : Nat → Int32} {i : Int32} (hF : F a = .inl (gI d, N, .inl f)) (hin : vp_in i N) (hdg : decode cc pc = .ok (.iaload, 1)) (kk : gG X d b Q F k n (pc + 1) lv (.int (f i.toNatClampNeg) :: st)) : gG X d b Q F k n pc lv (.int i :: .ref a :: st) := fun H locs ls hH hS hL => by
  obtain ⟨L, hP, hD, h0⟩ := id hH
  obtain ⟨q, hm, hq⟩ := gH.at (d := d) (b := b) (H := H) h0 hF g0_a
  exact va_iald (D := d.1) hC.hx hC.hb hC.hv.2.1 hP q 0 hq rfl hin hdg (kk H locs ls hH hS hL)
theorem g_iast (hC : gC own cc nL rt nm R d b X) {a N : Nat} {f : Nat → Int32} {i x : Int32} (hF : F a = .inl (gI d, N, .inl f)) (hin : vp_in i N) (hdg : decode cc pc = .ok (.iastore, 1)) (kk : gG X d b Q (va_up F a (.inl (gI d, N, .inl (upd f i.toNatClampNeg x)))) k n (pc + 1) lv st) : gG X d b Q F k n pc lv (.int x :: .int i :: .ref a :: st) := fun H locs ls hH hS hL => by
  obtain ⟨L, hP, hD, h0⟩ := id hH
  obtain ⟨q, hm, hq⟩ := gH.at (d := d) (b := b) (H := H) h0 hF g0_a
  exact va_iast (D := d.1) hC.hx hC.hb hC.hv.2.1 hP hD hS q 0 hq rfl hin hdg (fun H1 locs1 hP1 hD1 hS1 => kk H1 locs1 ls (gH.set h0 hm hD hq hF hP1 hD1) hS1 hL)
theorem g_bald (hC : gC own cc nL rt nm R d b X) {a N : Nat} {f : Nat → Int32} {i : Int32} (hF : F a = .inl (gY d, N, .inl f)) (hin : vp_in i N) (hdg : decode cc pc = .ok (.baload, 1)) (kk : gG X d b Q F k n (pc + 1) lv (.int (f i.toNatClampNeg) :: st)) : gG X d b Q F k n pc lv (.int i :: .ref a :: st) := fun H locs ls hH hS hL => by
  obtain ⟨L, hP, hD, h0⟩ := id hH
  obtain ⟨q, hm, hq⟩ := gH.at (d := d) (b := b) (H := H) h0 hF g0_a
  exact va_bald (D := d.1) hC.hx hC.hb hC.hv.2.1 hP q 1 hq rfl hin hdg (kk H locs ls hH hS hL)
theorem g_bast (hC : gC own cc nL rt nm R d b X) {a N : Nat} {f : Nat → Int32} {i x : Int32} (hF : F a = .inl (gY d, N, .inl f)) (hin : vp_in i N) (hdg : decode cc pc = .ok (.bastore, 1)) (kk : gG X d b Q (va_up F a (.inl (gY d, N, .inl (upd f i.toNatClampNeg (vp_nar .byte x))))) k n (pc + 1) lv st) : gG X d b Q F k n pc lv (.int x :: .int i :: .ref a :: st) := fun H locs ls hH hS hL => by
  obtain ⟨L, hP, hD, h0⟩ := id hH
  obtain ⟨q, hm, hq⟩ := gH.at (d := d) (b := b) (H := H) h0 hF g0_a
  exact va_bast (D := d.1) hC.hx hC.hb hC.hv.2.1 hP hD hS q 1 hq rfl hin hdg (fun H1 locs1 hP1 hD1 hS1 => kk H1 locs1 ls (gH.set h0 hm hD hq hF hP1 hD1) hS1 hL)
theorem g_last (hC : gC own cc nL rt nm R d b X) {a N : Nat} {f : Nat → Int64} {i : Int32} {x : Int64} (hF : F a = .inl (gJ d, N, .inr (.inl f))) (hin : vp_in i N) (hdg : decode cc pc = .ok (.lastore, 1)) (kk : gG X d b Q (va_up F a (.inl (gJ d, N, .inr (.inl (vp_updL f i.toNatClampNeg x))))) k n (pc + 1) lv st) : gG X d b Q F k n pc lv (.long x :: .int i :: .ref a :: st) := fun H locs ls hH hS hL => by
  obtain ⟨L, hP, hD, h0⟩ := id hH
  obtain ⟨q, hm, hq⟩ := gH.at (d := d) (b := b) (H := H) h0 hF g0_a
  exact va_last (D := d.1) hC.hx hC.hb hC.hv.2.1 hP hD hS q 3 hq rfl hin hdg (fun H1 locs1 hP1 hD1 hS1 => kk H1 locs1 ls (gH.set h0 hm hD hq hF hP1 hD1) hS1 hL)
theorem g_lald (hC : gC own cc nL rt nm R d b X) {a N : Nat} {f : Nat → Int64} {i : Int32} (hF : F a = .inl (gJ d, N, .inr (.inl f))) (hin : vp_in i N) (hdg : decode cc pc = .ok (.laload, 1)) (kk : gG X d b Q F k n (pc + 1) lv (.long (f i.toNatClampNeg) :: st)) : gG X d b Q F k n pc lv (.int i :: .ref a :: st) := fun H locs ls hH hS hL => by
  obtain ⟨L, hP, hD, h0⟩ := id hH
  obtain ⟨q, hm, hq⟩ := gH.at (d := d) (b := b) (H := H) h0 hF g0_a
  exact va_lald (D := d.1) hC.hx hC.hb hC.hv.2.1 hP q 3 hq rfl hin hdg (kk H locs ls hH hS hL)
theorem g_aald (hC : gC own cc nL rt nm R d b X) {a N : Nat} {f : Nat → Option Nat} {i : Int32} (hF : F a = .inl (gO d, N, .inr (.inr (.inr (.inr f))))) (hin : vp_in i N) (hdg : decode cc pc = .ok (.aaload, 1)) (kk : gG X d b Q F k n (pc + 1) lv (va_rf (f i.toNatClampNeg) :: st)) : gG X d b Q F k n pc lv (.int i :: .ref a :: st) := fun H locs ls hH hS hL => by
  obtain ⟨L, hP, hD, h0⟩ := id hH
  obtain ⟨q, hm, hq⟩ := gH.at (d := d) (b := b) (H := H) h0 hF g0_a
  exact va_aldq (D := d.1) hC.hx hC.hb hC.hv.2.1 hP q 4 hq rfl hin hdg (kk H locs ls hH hS hL)
theorem g_aast (hC : gC own cc nL rt nm R d b X) {a N v : Nat} {f : Nat → Option Nat} {i : Int32} {v0 : Value} {vs : List Value} (hF : F a = .inl (gO d, N, .inr (.inr (.inr (.inr f))))) (hV : F v = .inr (4, v0 :: vs)) (hin : vp_in i N) (hdg : decode cc pc = .ok (.aastore, 1)) (kk : gG X d b Q (va_up F a (.inl (gO d, N, .inr (.inr (.inr (.inr (va_up f i.toNatClampNeg (some v)))))))) k n (pc + 1) lv st) : gG X d b Q F k n pc lv (.ref v :: .int i :: .ref a :: st) := fun H locs ls hH hS hL => by
  obtain ⟨L, hP, hD, h0⟩ := id hH
  obtain ⟨q, hm, hq⟩ := gH.at (d := d) (b := b) (H := H) h0 hF g0_a
  obtain ⟨q2, hm2, hq2⟩ := gH.at (d := d) (b := b) (H := H) h0 hV g0_o
  exact va_astq (D := d.1) (r := (RX4, TX4, 3)) hC.hx hC.hb hC.hv.2.1 hP hD hS q 4 q2 4 hq rfl hq2 rfl hin hdg (fun H1 locs1 hP1 hD1 hS1 => kk H1 locs1 ls (gH.set h0 hm hD hq hF hP1 hD1) hS1 hL)
theorem g_alen (hC : gC own cc nL rt nm R d b X) {a : Nat} {cA : ClassId} {x : vp_A} (t0 : Nat) {ty : FieldType} (hF : F a = .inl (cA, x)) (ht : (gtys d)[t0]? = some (cA, ty)) (hdg : decode cc pc = .ok (.arraylength, 1)) (kk : gG X d b Q F k n (pc + 1) lv (.int (nI x.1) :: st)) : gG X d b Q F k n pc lv (.ref a :: st) := fun H locs ls hH hS hL => by
  obtain ⟨L, hP, hD, h0⟩ := id hH
  obtain ⟨q, hm, hq⟩ := gH.at (d := d) (b := b) (H := H) h0 hF g0_a
  exact va_alen (D := d.1) hC.hx hC.hb hC.hv.2.1 hP q t0 hq ht rfl hdg (kk H locs ls hH hS hL)
theorem g_newa (hC : gC own cc nL rt nm R d b X) {atype : ArrayType} {cA : ClassId} (t0 : Nat) {i : Int32} {N : Nat} {a0 : vp_A} (hw : Cond.arrayClass (newarray.typeOf atype) ∈ gWs) (ht : (gtys d)[t0]? = some (cA, newarray.typeOf atype)) (h5 : t0 < 4) (ha : ∀ cA : ClassId, vp_cell cA a0 = arrV cA N (fun _ => defaultValue (newarray.typeOf atype))) (hn : ¬ i < 0) (hN : i.toNatClampNeg = N) (hbytes : N * componentBytes (newarray.typeOf atype) ≤ 536870912) (hk : k + 1 ≤ R.cells) (hs : n + N ≤ R.slots) (hdg : decode cc pc = .ok (.newarray atype, 2)) (kk : ∀ q : Nat, F q = g0 → gG X d b Q (va_up F q (.inl (cA, a0))) (k + 1) (n + N) (pc + 2) lv (.ref q :: st)) : gG X d b Q F k n pc lv (.int i :: st) := fun H locs ls hH hS hL => by
  obtain ⟨L, hP, hD, h0⟩ := id hH
  have hK := hC.hv.2.1
  refine va_newa (D := d.1) (cl := vwCl) (tys := gtys d) hC.hx hC.hb (hC.hts _ hw) rfl hK hP hD hS hC.A ha hn hN hbytes (by rw [hC.hR]; exact hk) (by rw [hC.hR]; exact hs) hdg (fun q cB H1 hK1 hP1 hD1 hS1 => ?_)
  have e : cB = cA := by
    have h1 := (hK1.2 5 (cB, newarray.typeOf atype) rfl).2
    have h2 := (hK.2 t0 _ ht).2
    cases atype <;> exact Option.some.inj (h1.symm.trans h2)
  subst e
  obtain ⟨e1, e2⟩ := gH.push h0 hP1 hD1
  exact kk q e1 H1 locs ls e2 hS1 hL
theorem g_newq (hC : gC own cc nL rt nm R d b X) {idx : Nat} {i : Int32} {N : Nat} (hw : Cond.classLink own idx RX4 ∈ gWs) (hn : ¬ i < 0) (hN : i.toNatClampNeg = N) (hbytes : N * 4 ≤ 536870912) (hk : k + 1 ≤ R.cells) (hs : n + N ≤ R.slots) (hdg : decode cc pc = .ok (.anewarray idx, 3)) (kk : ∀ q : Nat, F q = g0 → gG X d b Q (va_up F q (.inl (gO d, N, .inr (.inr (.inr (.inr (fun _ => none))))))) (k + 1) (n + N) (pc + 3) lv (.ref q :: st)) : gG X d b Q F k n pc lv (.int i :: st) := fun H locs ls hH hS hL => by
  obtain ⟨L, hP, hD, h0⟩ := id hH
  have hK := hC.hv.2.1
  refine va_newq (D := d.1) (cl := vwCl) (tys := gtys d) hC.hx hC.hb hC.how (hC.hts _ hw) hC.hv.2.2.2.1 hK hP hD hS hC.A hn hN hbytes (by rw [hC.hR]; exact hk) (by rw [hC.hR]; exact hs) hdg (fun q cB H1 hK1 hP1 hD1 hS1 => ?_)
  have e : cB = gO d := by
    obtain ⟨-, -, -, -, -, h1⟩ := (hK1.2 5 (cB, .object RX4) rfl).2
    obtain ⟨-, -, -, -, -, h2⟩ := (hK.2 4 (gO d, .object RX4) rfl).2
    exact Option.some.inj (h1.symm.trans h2)
  subst e
  obtain ⟨e1, e2⟩ := gH.push h0 hP1 hD1
  exact kk q e1 H1 locs ls e2 hS1 hL
end G1

-- CONTRACTS
def gR (lvl mc ms : Nat) : Room := { frames := lvl, cells := mc, slots := ms, locals := 64 * lvl }
abbrev gw (y : MethodName) (cc : ByteArray) (mL : Nat) (rt : Option FieldType) : List Cond := .code y cc mL rt :: gWs
/-- an int (a boolean, a char ..) comes back -/
def gMi (l : Launch) (d : gD) (b : Nat) (y : MethodName) (cc : ByteArray) (mL : Nat) (rt : FieldType) (lvl mc ms : Nat) (F : gM) (As : List Value) (post : Int32 → gM → Prop) : Prop :=
  Met l y (gw y cc mL (some rt)) (gR lvl mc ms) (va_Pc As (gB d b F)) (va_Qi post (gB d b) (fun q => b ≤ q)) mc ms (fun q => b ≤ q)
def gMv (l : Launch) (d : gD) (b : Nat) (y : MethodName) (cc : ByteArray) (mL : Nat) (lvl mc ms : Nat) (F : gM) (As : List Value) (post : gM → Prop) : Prop :=
  Met l y (gw y cc mL none) (gR lvl mc ms) (va_Pc As (gB d b F)) (va_Qv post (gB d b) (fun q => b ≤ q)) mc ms (fun q => b ≤ q)
def gMl (l : Launch) (d : gD) (b : Nat) (y : MethodName) (cc : ByteArray) (mL : Nat) (lvl mc ms : Nat) (F : gM) (As : List Value) (post : Int64 → gM → Prop) : Prop :=
  Met l y (gw y cc mL (some .long)) (gR lvl mc ms) (va_Pc As (gB d b F)) (va_Ql post (gB d b) (fun q => b ≤ q)) mc ms (fun q => b ≤ q)
def gMq (l : Launch) (d : gD) (b : Nat) (y : MethodName) (cc : ByteArray) (mL : Nat) (rt : FieldType) (lvl mc ms : Nat) (F : gM) (As : List Value) (post : Option Nat → gM → Prop) : Prop :=
  Met l y (gw y cc mL (some rt)) (gR lvl mc ms) (va_Pc As (gB d b F)) (va_Qq post (gB d b) (fun q => b ≤ q)) mc ms (fun q => b ≤ q)
theorem gWs_all {y : MethodName} {cc : ByteArray} {mL : Nat} {rt : Option FieldType} (h : Cond.code y cc mL rt ∈ gWs) : GoodIn gWs (gw y cc mL rt) := fun w hw => by
  have hw' : w ∈ gWs := (List.mem_cons.mp hw).elim (fun e => by rw [e]; exact h) id
  exact ⟨hw', good_of_word (gWs_good w hw')⟩
/-- a body's start -/
theorem gM_of {Qc : Array Value → State → Outcome → State → Prop} {l : Launch} {d : gD} {b : Nat} {y : MethodName} {cc : ByteArray} {mL : Nat} {rt : Option FieldType} {lvl mc ms : Nat} {F : gM} {As : List Value} (hy : plainName y.cls = true) {lv : List (Option Value)} (hlv : lv.length = mL) (hn : (lg_sl As).length ≤ mL) (hl : ∀ (i : Nat) (v : Value), lv[i]? = some (some v) → (i, v) ∈ lv_args 0 As)
    (body : ∀ X : gX, X.la = l → gC y.cls cc mL rt y.name (gR lvl mc ms) d b X → gG X d b (MQ X.be Qc X.ar X.st mc ms (fun q => b ≤ q)) F 0 0 0 lv []) : Met l y (gw y cc mL rt) (gR lvl mc ms) (va_Pc As (gB d b F)) Qc mc ms (fun q => b ≤ q) := by
  refine Met.ofW (cc := cc) (maxL := mL) (ret := rt) hy rfl ?_
  intro p e s m args below meth c s₁ B hml hv
  obtain ⟨rfl, hV, hH⟩ := hv
  have hts := atoms_spec (ws := gw y cc mL rt) B.pre
  have hown : s.vm.findClass y.cls = some m.cls := findClass_of_methodNamed B.named
  have hent := lv_entry As (n := mL) hn
  rw [lg_entry_eq]
  exact body (p, l, e, (headSpec (gw y cc mL rt) (gR lvl mc ms)).room, s, m, As.toArray, below, meth, c) rfl ⟨B.exec, B.bytes, hml, hown, fun w hw => hts w (List.mem_cons_of_mem _ hw), hV, B.notSynchronized, B.returns, (name_of_methodNamed B.named B.method).1, rfl⟩ s.heap [] _ hH va_S.rf ⟨hent.1.trans hlv.symm, hent.2.1, fun i v hi => hent.2.2 (i, v) (hl i v hi)⟩
section G2
variable {own : String} {cc : ByteArray} {nL : Nat} {rt : Option FieldType} {nm : String} {R : Room} {d : gD} {b : Nat} {X : gX} {F : gM} {k n pc : Nat} {lv : List (Option Value)} {st : List Value} {mc ms : Nat}
theorem gE_B {own : String} {cc : ByteArray} {nL : Nat} {rt : Option FieldType} {nm : String} {R : Room} (hC : gC own cc nL rt nm R d b X) {H : Heap} {locs : List Loc} (hH : gH d b F H) (hS : va_S (fun q => b ≤ q) X.st.heap H locs) {t : State} (ht : t.heap = H) (hW : X.st.WarmedH t.vm) : gB d b F t := ⟨hC.at hS ht hW, by rw [ht]; exact hH⟩
theorem g_iret {ty : FieldType} (hC : gC own cc nL (some ty) nm R d b X) {post : Int32 → gM → Prop} {v : Int32} (hn : narrow ty (.int v) = .int v) (hp : post v F) (hk : k ≤ mc) (hs : n ≤ ms) (hdg : decode cc pc = .ok (.ireturn, 1)) : gG X d b (MQ X.be (va_Qi post (gB d b) (fun q => b ≤ q)) X.ar X.st mc ms (fun q => b ≤ q)) F k n pc lv [.int v] := fun H locs ls hH hS hL =>
  W.widen hk hs (W.zret (v := v) hC.hx hC.hb hC.hrt hn (fun t ht hW => ⟨⟨v, F, rfl, hp, gE_B hC hH hS ht hW⟩, hS.F ht⟩) hS.2.2 hdg hC.hlk)
theorem g_vret (hC : gC own cc nL none nm R d b X) {post : gM → Prop} (hp : post F) (hk : k ≤ mc) (hs : n ≤ ms) (hdg : decode cc pc = .ok (.return_, 1)) : gG X d b (MQ X.be (va_Qv post (gB d b) (fun q => b ≤ q)) X.ar X.st mc ms (fun q => b ≤ q)) F k n pc lv [] := fun H locs ls hH hS hL =>
  W.widen hk hs (W.vret hC.hx hC.hb hC.hrt (fun t ht hW => ⟨⟨F, rfl, hp, gE_B hC hH hS ht hW⟩, hS.F ht⟩) hS.2.2 hdg hC.hlk)
theorem g_lret (hC : gC own cc nL (some .long) nm R d b X) {post : Int64 → gM → Prop} {v : Int64} (hp : post v F) (hk : k ≤ mc) (hs : n ≤ ms) (hdg : decode cc pc = .ok (.lreturn, 1)) : gG X d b (MQ X.be (va_Ql post (gB d b) (fun q => b ≤ q)) X.ar X.st mc ms (fun q => b ≤ q)) F k n pc lv [.long v] := fun H locs ls hH hS hL =>
  W.widen hk hs (W.lret (v := v) hC.hx hC.hb hC.hrt (fun t ht hW => ⟨⟨v, F, rfl, hp, gE_B hC hH hS ht hW⟩, hS.F ht⟩) hS.2.2 hdg hC.hlk)
theorem g_aret {rt0 : FieldType} (hC : gC own cc nL (some rt0) nm R d b X) {post : Option Nat → gM → Prop} {v : Option Nat} (hrt : (∃ n, rt0 = .object n) ∨ ∃ t, rt0 = .array t) (hp : post v F) (hk : k ≤ mc) (hs : n ≤ ms) (hdg : decode cc pc = .ok (.areturn, 1)) : gG X d b (MQ X.be (va_Qq post (gB d b) (fun q => b ≤ q)) X.ar X.st mc ms (fun q => b ≤ q)) F k n pc lv [va_rf v] := fun H locs ls hH hS hL =>
  W.widen hk hs (W.aret (v := va_rf v) hC.hx hC.hb hC.hrt hrt (va_rf_or v) (fun t ht hW => ⟨⟨v, F, rfl, hp, gE_B hC hH hS ht hW⟩, hS.F ht⟩) hS.2.2 hdg hC.hlk)
/-- links of calls -/
def gCV (own : String) (idx : Nat) (y : MethodName) (cc : ByteArray) (mL : Nat) (rt : Option FieldType) (nA : Nat) : Prop := GoodIn gWs (wsV own idx y.cls y (gw y cc mL rt)) ∧ (y.cls = y.cls ∧ y.cls ≠ "java/lang/invoke/MethodHandle" ∧ y.cls ≠ "java/lang/invoke/VarHandle" ∧ (parseMethodDescriptor y.desc).map (fun d => d.parameters.length) = some nA)
def gCI (own : String) (idx : Nat) (y : MethodName) (cc : ByteArray) (mL : Nat) (nA : Nat) : Prop := GoodIn gWs (gw y cc mL none) ∧ Cond.initialized y.cls ∈ gWs ∧ Cond.methodLink own idx y ∈ gWs ∧ Cond.instanceMethod y ∈ gWs ∧ y.name = "<init>" ∧ (y.cls ≠ "java/lang/invoke/MethodHandle" ∧ y.cls ≠ "java/lang/invoke/VarHandle" ∧ (parseMethodDescriptor y.desc).map (fun d => d.parameters.length) = some nA)
def gCS (own : String) (idx : Nat) (y : MethodName) (cc : ByteArray) (mL : Nat) (rt : Option FieldType) (nA : Nat) : Prop := GoodIn gWs (va_wsS own idx y (gw y cc mL rt)) ∧ (y.cls ≠ "java/lang/invoke/MethodHandle" ∧ y.cls ≠ "java/lang/invoke/VarHandle" ∧ (parseMethodDescriptor y.desc).map (fun d => d.parameters.length) = some nA)
/-- of nest mates: the place in gNs -/
def gCIN (own : String) (idx i : Nat) (y : MethodName) (cc : ByteArray) (mL : Nat) (nA : Nat) : Prop := ∃ host : String, gNs[i]? = some (own, idx, y, host) ∧ GoodIn gWs (gw y cc mL none) ∧ Cond.initialized y.cls ∈ gWs ∧ Cond.instanceMethod y ∈ gWs ∧ y.name = "<init>" ∧ (y.cls ≠ "java/lang/invoke/MethodHandle" ∧ y.cls ≠ "java/lang/invoke/VarHandle" ∧ (parseMethodDescriptor y.desc).map (fun d => d.parameters.length) = some nA)
def gCSN (own : String) (idx i : Nat) (y : MethodName) (cc : ByteArray) (mL : Nat) (rt : Option FieldType) (nA : Nat) : Prop := ∃ host : String, gNs[i]? = some (own, idx, y, host) ∧ GoodIn gWs (gw y cc mL rt) ∧ Cond.initialized y.cls ∈ gWs ∧ Cond.static y ∈ gWs ∧ (y.cls ≠ "java/lang/invoke/MethodHandle" ∧ y.cls ≠ "java/lang/invoke/VarHandle" ∧ (parseMethodDescriptor y.desc).map (fun d => d.parameters.length) = some nA)
/-- a callee's room in the caller's -/
def gFit (R : Room) (lvl mL k n mc ms : Nat) : Prop := (lvl + 1 ≤ R.frames ∧ 8 + (mL + 11) + 64 * lvl ≤ R.locals) ∧ k + mc ≤ R.cells ∧ n + ms ≤ R.slots
theorem g_recv {ci a : Nat} {C : String} {T : u_T} {N : Nat} {v0 : Value} {fs : List Value} (hC : gC own cc nL rt nm R d b X) (hc : vwCl[ci]? = some (C, T, N)) (hF : F a = .inr (ci, v0 :: fs)) {H : Heap} (hH : gH d b F H) : ∃ cell : Cell, H[a]? = some cell ∧ cell.vm.isStatics = false ∧ X.st.vm.findClass C = some cell.cls := by
  obtain ⟨L, hP, hD, h0⟩ := hH
  obtain ⟨q, hm, hq⟩ := gH.at (d := d) (b := b) (H := H) h0 hF g0_o
  exact va_recv hC.hv.2.1 hP hc hq

theorem g_callVv {Q : State → Prop} (hC : gC own cc nL rt nm R d b X) {y : MethodName} {c2 : ByteArray} {mL nA lvl idx : Nat} {As : List Value} {post : gM → Prop} {a ci N : Nat} {T : u_T} {v0 : Value} {fs : List Value} (hc : vwCl[ci]? = some (y.cls, T, N)) (hF : F a = .inr (ci, v0 :: fs)) (hm : gMv X.la d b y c2 mL lvl mc ms F (.ref a :: As) post) (hl : gCV own idx y c2 mL none nA) (hA : As.length = nA) (hn : nL = lv.length) (hr : (st.map fun v => v.category).sum ≤ 8) (hf : gFit R lvl mL k n mc ms) (hdg : decode cc pc = .ok (.invokevirtual idx, 3)) (kk : ∀ F' : gM, post F' → gG X d b Q F' (k + mc) (n + ms) (pc + 3) lv st) : gG X d b Q F k n pc lv (As.reverse ++ .ref a :: st) := fun H locs ls hH hS hL => by
  exact va_callv (va_runV (As := As) (rest := st) ⟨hC.hx, hC.hb, hC.hml, hC.how, hC.hts⟩ hm (cwV nA hC.hts hl.1 rfl rfl rfl hl.2 (by rw [hC.hR]; exact hf.1)) ⟨gB.blind, g_recv hC hc hF hH, fun U hU hW => ⟨rfl, gE_B hC hH hS hU hW⟩⟩ rfl hA (hL.1.trans hn.symm) rfl (lv_room hr) hdg (by rw [hC.hR]; exact hf.2)) hS (fun q _ h => h) (fun q h => h) (fun u t H1 locs1 ht hvm hp hB hz hk1 hS1 => kk u hp H1 locs1 ls (by rw [← ht]; exact hB.2) hS1 hL)
theorem g_callSv {Q : State → Prop} (hC : gC own cc nL rt nm R d b X) {y : MethodName} {c2 : ByteArray} {mL nA lvl idx : Nat} {As : List Value} {post : gM → Prop} (hm : gMv X.la d b y c2 mL lvl mc ms F As post) (hl : gCS own idx y c2 mL none nA) (hA : As.length = nA) (hn : nL = lv.length) (hr : (st.map fun v => v.category).sum ≤ 8) (hf : gFit R lvl mL k n mc ms) (hdg : decode cc pc = .ok (.invokestatic idx, 3)) (kk : ∀ F' : gM, post F' → gG X d b Q F' (k + mc) (n + ms) (pc + 3) lv st) : gG X d b Q F k n pc lv (As.reverse ++ st) := fun H locs ls hH hS hL => by
  exact va_callv (va_runS (As := As) (rest := st) ⟨hC.hx, hC.hb, hC.hml, hC.how, hC.hts⟩ hm (va_cwS nA hC.hts hl.1 rfl rfl rfl hl.2 (by rw [hC.hR]; exact hf.1)) ⟨gB.blind, fun U hU hW => ⟨rfl, gE_B hC hH hS hU hW⟩⟩ rfl hA (hL.1.trans hn.symm) rfl (lv_room hr) hdg (by rw [hC.hR]; exact hf.2)) hS (fun q _ h => h) (fun q h => h) (fun u t H1 locs1 ht hvm hp hB hz hk1 hS1 => kk u hp H1 locs1 ls (by rw [← ht]; exact hB.2) hS1 hL)
theorem g_callIv {Q : State → Prop} (hC : gC own cc nL rt nm R d b X) {y : MethodName} {c2 : ByteArray} {mL nA lvl idx : Nat} {As : List Value} {post : gM → Prop} {a : Nat} (hm : gMv X.la d b y c2 mL lvl mc ms F (.ref a :: As) post) (hl : gCI own idx y c2 mL nA) (hA : As.length = nA) (hn : nL = lv.length) (hr : (st.map fun v => v.category).sum ≤ 8) (hf : gFit R lvl mL k n mc ms) (hdg : decode cc pc = .ok (.invokespecial idx, 3)) (kk : ∀ F' : gM, post F' → gG X d b Q F' (k + mc) (n + ms) (pc + 3) lv st) : gG X d b Q F k n pc lv (As.reverse ++ .ref a :: st) := fun H locs ls hH hS hL => by
  exact va_callv (va_runI (As := As) (rest := st) ⟨hC.hx, hC.hb, hC.hml, hC.how, hC.hts⟩ hm (cwI nA hC.hts hl.1 rfl rfl rfl (hC.hts _ hl.2.1) (hC.hts _ hl.2.2.1) (hC.hts _ hl.2.2.2.1) hl.2.2.2.2.1 hl.2.2.2.2.2 (by rw [hC.hR]; exact hf.1)) ⟨gB.blind, fun U hU hW => ⟨rfl, gE_B hC hH hS hU hW⟩⟩ rfl hA (hL.1.trans hn.symm) rfl (lv_room hr) hdg (by rw [hC.hR]; exact hf.2)) hS (fun q _ h => h) (fun q h => h) (fun u t H1 locs1 ht hvm hp hB hz hk1 hS1 => kk u hp H1 locs1 ls (by rw [← ht]; exact hB.2) hS1 hL)
theorem g_callINv {Q : State → Prop} (hC : gC own cc nL rt nm R d b X) {y : MethodName} {c2 : ByteArray} {mL nA lvl idx : Nat} {ni : Nat} {As : List Value} {post : gM → Prop} {a : Nat} (hm : gMv X.la d b y c2 mL lvl mc ms F (.ref a :: As) post) (hl : gCIN own idx ni y c2 mL nA) (hA : As.length = nA) (hn : nL = lv.length) (hr : (st.map fun v => v.category).sum ≤ 8) (hf : gFit R lvl mL k n mc ms) (hdg : decode cc pc = .ok (.invokespecial idx, 3)) (kk : ∀ F' : gM, post F' → gG X d b Q F' (k + mc) (n + ms) (pc + 3) lv st) : gG X d b Q F k n pc lv (As.reverse ++ .ref a :: st) := fun H locs ls hH hS hL => by
  obtain ⟨host, z1, z2, z3, z4, z5, z6⟩ := hl
  exact va_callv (va_runIN (As := As) (rest := st) ⟨hC.hx, hC.hb, hC.hml, hC.how, hC.hts⟩ hm ⟨va_cnB nA hC.hts z2 rfl rfl rfl (hC.hv.2.2.1 _ (List.mem_of_getElem? z1)) (hC.hts _ z3) z6 (by rw [hC.hR]; exact hf.1), z5, hC.hts _ z4⟩ ⟨gB.blind, fun U hU hW => ⟨rfl, gE_B hC hH hS hU hW⟩⟩ rfl hA (hL.1.trans hn.symm) rfl (lv_room hr) hdg (by rw [hC.hR]; exact hf.2)) hS (fun q _ h => h) (fun q h => h) (fun u t H1 locs1 ht hvm hp hB hz hk1 hS1 => kk u hp H1 locs1 ls (by rw [← ht]; exact hB.2) hS1 hL)
theorem g_callSNv {Q : State → Prop} (hC : gC own cc nL rt nm R d b X) {y : MethodName} {c2 : ByteArray} {mL nA lvl idx : Nat} {ni : Nat} {As : List Value} {post : gM → Prop} (hm : gMv X.la d b y c2 mL lvl mc ms F As post) (hl : gCSN own idx ni y c2 mL none nA) (hA : As.length = nA) (hn : nL = lv.length) (hr : (st.map fun v => v.category).sum ≤ 8) (hf : gFit R lvl mL k n mc ms) (hdg : decode cc pc = .ok (.invokestatic idx, 3)) (kk : ∀ F' : gM, post F' → gG X d b Q F' (k + mc) (n + ms) (pc + 3) lv st) : gG X d b Q F k n pc lv (As.reverse ++ st) := fun H locs ls hH hS hL => by
  obtain ⟨host, z1, z2, z3, z4, z5⟩ := hl
  exact va_callv (va_runSN (As := As) (rest := st) ⟨hC.hx, hC.hb, hC.hml, hC.how, hC.hts⟩ hm ⟨va_cnB nA hC.hts z2 rfl rfl rfl (hC.hv.2.2.1 _ (List.mem_of_getElem? z1)) (hC.hts _ z3) z5 (by rw [hC.hR]; exact hf.1), hC.hts _ z4, trivial⟩ ⟨gB.blind, fun U hU hW => ⟨rfl, gE_B hC hH hS hU hW⟩⟩ rfl hA (hL.1.trans hn.symm) rfl (lv_room hr) hdg (by rw [hC.hR]; exact hf.2)) hS (fun q _ h => h) (fun q h => h) (fun u t H1 locs1 ht hvm hp hB hz hk1 hS1 => kk u hp H1 locs1 ls (by rw [← ht]; exact hB.2) hS1 hL)
theorem g_callVi {Q : State → Prop} (hC : gC own cc nL rt nm R d b X) {y : MethodName} {c2 : ByteArray} {mL nA lvl idx : Nat} {rt0 : FieldType} {As : List Value} {post : Int32 → gM → Prop} {a ci N : Nat} {T : u_T} {v0 : Value} {fs : List Value} (hc : vwCl[ci]? = some (y.cls, T, N)) (hF : F a = .inr (ci, v0 :: fs)) (hm : gMi X.la d b y c2 mL rt0 lvl mc ms F (.ref a :: As) post) (hl : gCV own idx y c2 mL (some rt0) nA) (hA : As.length = nA) (hn : nL = lv.length) (hr : (st.map fun v => v.category).sum ≤ 8) (hf : gFit R lvl mL k n mc ms) (hdg : decode cc pc = .ok (.invokevirtual idx, 3)) (kk : ∀ (r : Int32) (F' : gM), post r F' → gG X d b Q F' (k + mc) (n + ms) (pc + 3) lv (.int r :: st)) : gG X d b Q F k n pc lv (As.reverse ++ .ref a :: st) := fun H locs ls hH hS hL => by
  exact va_calli (va_runV (As := As) (rest := st) ⟨hC.hx, hC.hb, hC.hml, hC.how, hC.hts⟩ hm (cwV nA hC.hts hl.1 rfl rfl rfl hl.2 (by rw [hC.hR]; exact hf.1)) ⟨gB.blind, g_recv hC hc hF hH, fun U hU hW => ⟨rfl, gE_B hC hH hS hU hW⟩⟩ rfl hA (hL.1.trans hn.symm) rfl (lv_room hr) hdg (by rw [hC.hR]; exact hf.2)) hS (fun q _ h => h) (fun q h => h) (fun r u t H1 locs1 ht hvm hp hB hz hk1 hS1 => kk r u hp H1 locs1 ls (by rw [← ht]; exact hB.2) hS1 hL)
theorem g_callSi {Q : State → Prop} (hC : gC own cc nL rt nm R d b X) {y : MethodName} {c2 : ByteArray} {mL nA lvl idx : Nat} {rt0 : FieldType} {As : List Value} {post : Int32 → gM → Prop} (hm : gMi X.la d b y c2 mL rt0 lvl mc ms F As post) (hl : gCS own idx y c2 mL (some rt0) nA) (hA : As.length = nA) (hn : nL = lv.length) (hr : (st.map fun v => v.category).sum ≤ 8) (hf : gFit R lvl mL k n mc ms) (hdg : decode cc pc = .ok (.invokestatic idx, 3)) (kk : ∀ (r : Int32) (F' : gM), post r F' → gG X d b Q F' (k + mc) (n + ms) (pc + 3) lv (.int r :: st)) : gG X d b Q F k n pc lv (As.reverse ++ st) := fun H locs ls hH hS hL => by
  exact va_calli (va_runS (As := As) (rest := st) ⟨hC.hx, hC.hb, hC.hml, hC.how, hC.hts⟩ hm (va_cwS nA hC.hts hl.1 rfl rfl rfl hl.2 (by rw [hC.hR]; exact hf.1)) ⟨gB.blind, fun U hU hW => ⟨rfl, gE_B hC hH hS hU hW⟩⟩ rfl hA (hL.1.trans hn.symm) rfl (lv_room hr) hdg (by rw [hC.hR]; exact hf.2)) hS (fun q _ h => h) (fun q h => h) (fun r u t H1 locs1 ht hvm hp hB hz hk1 hS1 => kk r u hp H1 locs1 ls (by rw [← ht]; exact hB.2) hS1 hL)
theorem g_callSNi {Q : State → Prop} (hC : gC own cc nL rt nm R d b X) {y : MethodName} {c2 : ByteArray} {mL nA lvl idx : Nat} {rt0 : FieldType} {ni : Nat} {As : List Value} {post : Int32 → gM → Prop} (hm : gMi X.la d b y c2 mL rt0 lvl mc ms F As post) (hl : gCSN own idx ni y c2 mL (some rt0) nA) (hA : As.length = nA) (hn : nL = lv.length) (hr : (st.map fun v => v.category).sum ≤ 8) (hf : gFit R lvl mL k n mc ms) (hdg : decode cc pc = .ok (.invokestatic idx, 3)) (kk : ∀ (r : Int32) (F' : gM), post r F' → gG X d b Q F' (k + mc) (n + ms) (pc + 3) lv (.int r :: st)) : gG X d b Q F k n pc lv (As.reverse ++ st) := fun H locs ls hH hS hL => by
  obtain ⟨host, z1, z2, z3, z4, z5⟩ := hl
  exact va_calli (va_runSN (As := As) (rest := st) ⟨hC.hx, hC.hb, hC.hml, hC.how, hC.hts⟩ hm ⟨va_cnB nA hC.hts z2 rfl rfl rfl (hC.hv.2.2.1 _ (List.mem_of_getElem? z1)) (hC.hts _ z3) z5 (by rw [hC.hR]; exact hf.1), hC.hts _ z4, trivial⟩ ⟨gB.blind, fun U hU hW => ⟨rfl, gE_B hC hH hS hU hW⟩⟩ rfl hA (hL.1.trans hn.symm) rfl (lv_room hr) hdg (by rw [hC.hR]; exact hf.2)) hS (fun q _ h => h) (fun q h => h) (fun r u t H1 locs1 ht hvm hp hB hz hk1 hS1 => kk r u hp H1 locs1 ls (by rw [← ht]; exact hB.2) hS1 hL)
theorem g_callVl {Q : State → Prop} (hC : gC own cc nL rt nm R d b X) {y : MethodName} {c2 : ByteArray} {mL nA lvl idx : Nat} {As : List Value} {post : Int64 → gM → Prop} {a ci N : Nat} {T : u_T} {v0 : Value} {fs : List Value} (hc : vwCl[ci]? = some (y.cls, T, N)) (hF : F a = .inr (ci, v0 :: fs)) (hm : gMl X.la d b y c2 mL lvl mc ms F (.ref a :: As) post) (hl : gCV own idx y c2 mL (some .long) nA) (hA : As.length = nA) (hn : nL = lv.length) (hr : (st.map fun v => v.category).sum ≤ 8) (hf : gFit R lvl mL k n mc ms) (hdg : decode cc pc = .ok (.invokevirtual idx, 3)) (kk : ∀ (r : Int64) (F' : gM), post r F' → gG X d b Q F' (k + mc) (n + ms) (pc + 3) lv (.long r :: st)) : gG X d b Q F k n pc lv (As.reverse ++ .ref a :: st) := fun H locs ls hH hS hL => by
  exact va_calll (va_runV (As := As) (rest := st) ⟨hC.hx, hC.hb, hC.hml, hC.how, hC.hts⟩ hm (cwV nA hC.hts hl.1 rfl rfl rfl hl.2 (by rw [hC.hR]; exact hf.1)) ⟨gB.blind, g_recv hC hc hF hH, fun U hU hW => ⟨rfl, gE_B hC hH hS hU hW⟩⟩ rfl hA (hL.1.trans hn.symm) rfl (lv_room hr) hdg (by rw [hC.hR]; exact hf.2)) hS (fun q _ h => h) (fun q h => h) (fun r u t H1 locs1 ht hvm hp hB hz hk1 hS1 => kk r u hp H1 locs1 ls (by rw [← ht]; exact hB.2) hS1 hL)
theorem g_callSl {Q : State → Prop} (hC : gC own cc nL rt nm R d b X) {y : MethodName} {c2 : ByteArray} {mL nA lvl idx : Nat} {As : List Value} {post : Int64 → gM → Prop} (hm : gMl X.la d b y c2 mL lvl mc ms F As post) (hl : gCS own idx y c2 mL (some .long) nA) (hA : As.length = nA) (hn : nL = lv.length) (hr : (st.map fun v => v.category).sum ≤ 8) (hf : gFit R lvl mL k n mc ms) (hdg : decode cc pc = .ok (.invokestatic idx, 3)) (kk : ∀ (r : Int64) (F' : gM), post r F' → gG X d b Q F' (k + mc) (n + ms) (pc + 3) lv (.long r :: st)) : gG X d b Q F k n pc lv (As.reverse ++ st) := fun H locs ls hH hS hL => by
  exact va_calll (va_runS (As := As) (rest := st) ⟨hC.hx, hC.hb, hC.hml, hC.how, hC.hts⟩ hm (va_cwS nA hC.hts hl.1 rfl rfl rfl hl.2 (by rw [hC.hR]; exact hf.1)) ⟨gB.blind, fun U hU hW => ⟨rfl, gE_B hC hH hS hU hW⟩⟩ rfl hA (hL.1.trans hn.symm) rfl (lv_room hr) hdg (by rw [hC.hR]; exact hf.2)) hS (fun q _ h => h) (fun q h => h) (fun r u t H1 locs1 ht hvm hp hB hz hk1 hS1 => kk r u hp H1 locs1 ls (by rw [← ht]; exact hB.2) hS1 hL)
theorem g_callSNl {Q : State → Prop} (hC : gC own cc nL rt nm R d b X) {y : MethodName} {c2 : ByteArray} {mL nA lvl idx : Nat} {ni : Nat} {As : List Value} {post : Int64 → gM → Prop} (hm : gMl X.la d b y c2 mL lvl mc ms F As post) (hl : gCSN own idx ni y c2 mL (some .long) nA) (hA : As.length = nA) (hn : nL = lv.length) (hr : (st.map fun v => v.category).sum ≤ 8) (hf : gFit R lvl mL k n mc ms) (hdg : decode cc pc = .ok (.invokestatic idx, 3)) (kk : ∀ (r : Int64) (F' : gM), post r F' → gG X d b Q F' (k + mc) (n + ms) (pc + 3) lv (.long r :: st)) : gG X d b Q F k n pc lv (As.reverse ++ st) := fun H locs ls hH hS hL => by
  obtain ⟨host, z1, z2, z3, z4, z5⟩ := hl
  exact va_calll (va_runSN (As := As) (rest := st) ⟨hC.hx, hC.hb, hC.hml, hC.how, hC.hts⟩ hm ⟨va_cnB nA hC.hts z2 rfl rfl rfl (hC.hv.2.2.1 _ (List.mem_of_getElem? z1)) (hC.hts _ z3) z5 (by rw [hC.hR]; exact hf.1), hC.hts _ z4, trivial⟩ ⟨gB.blind, fun U hU hW => ⟨rfl, gE_B hC hH hS hU hW⟩⟩ rfl hA (hL.1.trans hn.symm) rfl (lv_room hr) hdg (by rw [hC.hR]; exact hf.2)) hS (fun q _ h => h) (fun q h => h) (fun r u t H1 locs1 ht hvm hp hB hz hk1 hS1 => kk r u hp H1 locs1 ls (by rw [← ht]; exact hB.2) hS1 hL)
theorem g_callVq {Q : State → Prop} (hC : gC own cc nL rt nm R d b X) {y : MethodName} {c2 : ByteArray} {mL nA lvl idx : Nat} {rt0 : FieldType} {As : List Value} {post : Option Nat → gM → Prop} {a ci N : Nat} {T : u_T} {v0 : Value} {fs : List Value} (hc : vwCl[ci]? = some (y.cls, T, N)) (hF : F a = .inr (ci, v0 :: fs)) (hm : gMq X.la d b y c2 mL rt0 lvl mc ms F (.ref a :: As) post) (hl : gCV own idx y c2 mL (some rt0) nA) (hA : As.length = nA) (hn : nL = lv.length) (hr : (st.map fun v => v.category).sum ≤ 8) (hf : gFit R lvl mL k n mc ms) (hdg : decode cc pc = .ok (.invokevirtual idx, 3)) (kk : ∀ (r : Option Nat) (F' : gM), post r F' → gG X d b Q F' (k + mc) (n + ms) (pc + 3) lv (va_rf r :: st)) : gG X d b Q F k n pc lv (As.reverse ++ .ref a :: st) := fun H locs ls hH hS hL => by
  exact va_callq (va_runV (As := As) (rest := st) ⟨hC.hx, hC.hb, hC.hml, hC.how, hC.hts⟩ hm (cwV nA hC.hts hl.1 rfl rfl rfl hl.2 (by rw [hC.hR]; exact hf.1)) ⟨gB.blind, g_recv hC hc hF hH, fun U hU hW => ⟨rfl, gE_B hC hH hS hU hW⟩⟩ rfl hA (hL.1.trans hn.symm) rfl (lv_room hr) hdg (by rw [hC.hR]; exact hf.2)) hS (fun q _ h => h) (fun q h => h) (fun r u t H1 locs1 ht hvm hp hB hz hk1 hS1 => kk r u hp H1 locs1 ls (by rw [← ht]; exact hB.2) hS1 hL)
theorem g_callSq {Q : State → Prop} (hC : gC own cc nL rt nm R d b X) {y : MethodName} {c2 : ByteArray} {mL nA lvl idx : Nat} {rt0 : FieldType} {As : List Value} {post : Option Nat → gM → Prop} (hm : gMq X.la d b y c2 mL rt0 lvl mc ms F As post) (hl : gCS own idx y c2 mL (some rt0) nA) (hA : As.length = nA) (hn : nL = lv.length) (hr : (st.map fun v => v.category).sum ≤ 8) (hf : gFit R lvl mL k n mc ms) (hdg : decode cc pc = .ok (.invokestatic idx, 3)) (kk : ∀ (r : Option Nat) (F' : gM), post r F' → gG X d b Q F' (k + mc) (n + ms) (pc + 3) lv (va_rf r :: st)) : gG X d b Q F k n pc lv (As.reverse ++ st) := fun H locs ls hH hS hL => by
  exact va_callq (va_runS (As := As) (rest := st) ⟨hC.hx, hC.hb, hC.hml, hC.how, hC.hts⟩ hm (va_cwS nA hC.hts hl.1 rfl rfl rfl hl.2 (by rw [hC.hR]; exact hf.1)) ⟨gB.blind, fun U hU hW => ⟨rfl, gE_B hC hH hS hU hW⟩⟩ rfl hA (hL.1.trans hn.symm) rfl (lv_room hr) hdg (by rw [hC.hR]; exact hf.2)) hS (fun q _ h => h) (fun q h => h) (fun r u t H1 locs1 ht hvm hp hB hz hk1 hS1 => kk r u hp H1 locs1 ls (by rw [← ht]; exact hB.2) hS1 hL)
theorem g_callSNq {Q : State → Prop} (hC : gC own cc nL rt nm R d b X) {y : MethodName} {c2 : ByteArray} {mL nA lvl idx : Nat} {rt0 : FieldType} {ni : Nat} {As : List Value} {post : Option Nat → gM → Prop} (hm : gMq X.la d b y c2 mL rt0 lvl mc ms F As post) (hl : gCSN own idx ni y c2 mL (some rt0) nA) (hA : As.length = nA) (hn : nL = lv.length) (hr : (st.map fun v => v.category).sum ≤ 8) (hf : gFit R lvl mL k n mc ms) (hdg : decode cc pc = .ok (.invokestatic idx, 3)) (kk : ∀ (r : Option Nat) (F' : gM), post r F' → gG X d b Q F' (k + mc) (n + ms) (pc + 3) lv (va_rf r :: st)) : gG X d b Q F k n pc lv (As.reverse ++ st) := fun H locs ls hH hS hL => by
  obtain ⟨host, z1, z2, z3, z4, z5⟩ := hl
  exact va_callq (va_runSN (As := As) (rest := st) ⟨hC.hx, hC.hb, hC.hml, hC.how, hC.hts⟩ hm ⟨va_cnB nA hC.hts z2 rfl rfl rfl (hC.hv.2.2.1 _ (List.mem_of_getElem? z1)) (hC.hts _ z3) z5 (by rw [hC.hR]; exact hf.1), hC.hts _ z4, trivial⟩ ⟨gB.blind, fun U hU hW => ⟨rfl, gE_B hC hH hS hU hW⟩⟩ rfl hA (hL.1.trans hn.symm) rfl (lv_room hr) hdg (by rw [hC.hR]; exact hf.2)) hS (fun q _ h => h) (fun q h => h) (fun r u t H1 locs1 ht hvm hp hB hz hk1 hS1 => kk r u hp H1 locs1 ls (by rw [← ht]; exact hB.2) hS1 hL)
end G2
end
section
theorem kw_247 : Cond.initialized "java/lang/Math" ∈ gWs := gWm 247 (by decide +kernel) rfl
theorem kw_446 : Cond.static Lib.Math.min.name ∈ gWs := gWm 446 (by decide +kernel) rfl
theorem kw_447 : Cond.code Lib.Math.min.name Lib.Math.min.code 2 (some .int) ∈ gWs := gWm 447 (by decide +kernel) rfl
theorem kw_449 : Cond.static Lib.Math.max.name ∈ gWs := gWm 449 (by decide +kernel) rfl
theorem kw_450 : Cond.code Lib.Math.max.name Lib.Math.max.code 2 (some .int) ∈ gWs := gWm 450 (by decide +kernel) rfl
theorem kw_464 : Cond.native arraycopyName ∈ gWs := gWm 464 (by decide +kernel) rfl
theorem kw_463 : Cond.static arraycopyName ∈ gWs := gWm 463 (by decide +kernel) rfl
theorem kw_249 : Cond.initialized "java/lang/System" ∈ gWs := gWm 249 (by decide +kernel) rfl
theorem gne {F : gM} {x a : Nat} {e1 e2 : va_E} (h1 : F x = e1) (h2 : F a = e2) (h : e1 ≠ e2) : x ≠ a := fun z => h (by rw [← h1, ← h2, z])
theorem gk_oa {c : Nat} {l : List Value} {z : ClassId × vp_A} : (.inr (c, l) : va_E) ≠ .inl z := fun h => by cases h
theorem gk_ao {c : Nat} {l : List Value} {z : ClassId × vp_A} : (.inl z : va_E) ≠ .inr (c, l) := fun h => by cases h
theorem gk_oo {c1 c2 : Nat} {l1 l2 : List Value} (h : (c1 == c2) = false) : (.inr (c1, l1) : va_E) ≠ .inr (c2, l2) := fun z => by
  have h1 : c1 = c2 := congrArg (fun e : va_E => match e with | .inr q => q.1 | .inl _ => 0) z
  rw [h1] at h
  simp at h
theorem gRc {a L MC MS : Nat} (h : a ≤ MC) : a ≤ (gR L MC MS).cells := h
theorem gRs {a L MC MS : Nat} (h : a ≤ MS) : a ≤ (gR L MC MS).slots := h
theorem gFit_of {L MC MS lvl mL k n mc ms : Nat} (h1 : lvl + 1 ≤ L) (h2 : mL ≤ 40) (h3 : k + mc ≤ MC) (h4 : n + ms ≤ MS) : gFit (gR L MC MS) lvl mL k n mc ms := ⟨⟨h1, by show 8 + (mL + 11) + 64 * lvl ≤ 64 * L; omega⟩, h3, h4⟩
theorem gFit_add {L MC MS lvl mL k n mc ms : Nat} (h1 : lvl + 1 ≤ L) (h2 : mL ≤ 40) (e1 : mc = 0) (e2 : ms = 0) (h3 : k ≤ MC) (h4 : n ≤ MS) : gFit (gR L MC MS) lvl mL k n mc ms := by subst e1; subst e2; exact gFit_of h1 h2 h3 h4
theorem g_mk {ws : List Cond} (hd : List Cond) (h : GoodIn gWs ws) (hm : ∀ w ∈ hd, w ∈ gWs) : GoodIn gWs (hd ++ ws) := fun w hw => (List.mem_append.mp hw).elim (fun q => ⟨hm w q, good_of_word (gWs_good w (hm w q))⟩) (h w)
/-- a method's locals at its entry -/
def gOf : List Value → List (Option Value)
  | [] => []
  | v :: vs => if v.category = 2 then some v :: none :: gOf vs else some v :: gOf vs
theorem gOf_len : ∀ vs : List Value, (gOf vs).length = (lg_sl vs).length
  | [] => rfl
  | v :: vs => by
    have h := gOf_len vs
    unfold lg_sl at h ⊢
    rw [List.flatMap_cons]
    by_cases hc : v.category = 2
    · simp [gOf, hc, h]
    · simp [gOf, hc, h]
theorem gOf_mem : ∀ (vs : List Value) (k i : Nat) (v : Value), (gOf vs)[i]? = some (some v) → (k + i, v) ∈ lv_args k vs
  | [], _, _, _, h => by simp [gOf] at h
  | u :: vs, k, i, v, h => by
    by_cases hc : u.category = 2
    · rw [gOf, if_pos hc] at h
      rw [lv_args, if_pos hc]
      match i, h with
      | 0, h => cases h; exact List.mem_cons_self
      | 1, h => cases h
      | i + 2, h =>
        have h2 := gOf_mem vs (k + 2) i v h
        rw [show k + 2 + i = k + (i + 2) by omega] at h2
        exact List.mem_cons_of_mem _ h2
    · rw [gOf, if_neg hc] at h
      rw [lv_args, if_neg hc]
      match i, h with
      | 0, h => cases h; exact List.mem_cons_self
      | i + 1, h =>
        have h2 := gOf_mem vs (k + 1) i v h
        rw [show k + 1 + i = k + (i + 1) by omega] at h2
        exact List.mem_cons_of_mem _ h2
def gEnt (As : List Value) (nL : Nat) : List (Option Value) := gOf As ++ List.replicate (nL - (gOf As).length) none
theorem gEnt_L {As : List Value} {nL : Nat} {ls : Array Slot} (hn : (lg_sl As).length ≤ nL) (hent : lv_has ls nL (lv_args 0 As)) : gL (gEnt As nL) ls := by
  refine ⟨?_, hent.2.1, fun i v h => ?_⟩
  · rw [hent.1]
    unfold gEnt
    rw [List.length_append, List.length_replicate, gOf_len]
    omega
  · unfold gEnt at h
    by_cases hi : i < (gOf As).length
    · rw [List.getElem?_append_left hi] at h
      have h2 := gOf_mem As 0 i v h
      rw [Nat.zero_add] at h2
      exact hent.2.2 (i, v) h2
    · rw [List.getElem?_append_right (by omega), List.getElem?_replicate] at h
      split at h <;> cases h
theorem gM_of2 {Qc : Array Value → State → Outcome → State → Prop} {l : Launch} {d : gD} {b : Nat} {y : MethodName} {cc : ByteArray} {nL : Nat} {rt : Option FieldType} {lvl mc ms : Nat} {F : gM} {As : List Value} (hy : plainName y.cls = true) (hn : (lg_sl As).length ≤ nL)
    (body : ∀ X : gX, X.la = l → gC y.cls cc nL rt y.name (gR lvl mc ms) d b X → gG X d b (MQ X.be Qc X.ar X.st mc ms (fun q => b ≤ q)) F 0 0 0 (gEnt As nL) []) : Met l y (gw y cc nL rt) (gR lvl mc ms) (va_Pc As (gB d b F)) Qc mc ms (fun q => b ≤ q) := by
  refine gM_of hy (lv := gEnt As nL) ?_ hn ?_ body
  · unfold gEnt
    rw [List.length_append, List.length_replicate, gOf_len]
    omega
  · intro i v h
    unfold gEnt at h
    by_cases hi : i < (gOf As).length
    · rw [List.getElem?_append_left hi] at h
      have h2 := gOf_mem As 0 i v h
      rw [Nat.zero_add] at h2
      exact h2
    · rw [List.getElem?_append_right (by omega), List.getElem?_replicate] at h
      split at h <;> cases h
section G3
variable {own : String} {cc : ByteArray} {nL : Nat} {rt : Option FieldType} {nm : String} {R : Room} {d : gD} {b : Nat} {X : gX} {Q : State → Prop} {F : gM} {k n pc : Nat} {lv : List (Option Value)} {st : List Value}
theorem g_vF (kk : ∀ F' : gM, F' = F → gG X d b Q F' k n pc lv st) : gG X d b Q F k n pc lv st := kk F rfl
theorem g_kn {k2 n2 : Nat} (h1 : k = k2) (h2 : n = n2) (kk : gG X d b Q F k2 n2 pc lv st) : gG X d b Q F k n pc lv st := h1 ▸ h2 ▸ kk
theorem g_max (hC : gC own cc nL rt nm R d b X) {idx : Nat} {x y : Int32} (hw : Cond.methodLink own idx Lib.Math.max.name ∈ gWs) (hn : nL = lv.length) (hR : 1 ≤ R.frames ∧ 21 ≤ R.locals) (hr : (st.map fun v => v.category).sum ≤ 8) (hk : k ≤ R.cells) (hs : n ≤ R.slots) (hdg : decode cc pc = .ok (.invokestatic idx, 3)) (kk : gG X d b Q F k n (pc + 3) lv (.int (if x < y then y else x) :: st)) : gG X d b Q F k n pc lv (.int y :: .int x :: st) := fun H locs ls hH hS hL =>
  va_mmax hC.hx hC.hb (by rw [hC.hml, hn]; exact hL.1.symm) hC.how (hC.hts _ hw) (hC.hts _ kw_449) (hC.hts _ kw_247) (hC.hts _ kw_450) (by rw [hC.hR]; exact hR.1) (by rw [hC.hR]; omega) (by rw [hC.hR]; exact hk) (by rw [hC.hR]; exact hs) hdg (kk H locs ls hH hS hL)
theorem g_min (hC : gC own cc nL rt nm R d b X) {idx : Nat} {x y : Int32} (hw : Cond.methodLink own idx Lib.Math.min.name ∈ gWs) (hn : nL = lv.length) (hR : 1 ≤ R.frames ∧ 21 ≤ R.locals) (hr : (st.map fun v => v.category).sum ≤ 8) (hk : k ≤ R.cells) (hs : n ≤ R.slots) (hdg : decode cc pc = .ok (.invokestatic idx, 3)) (kk : gG X d b Q F k n (pc + 3) lv (.int (if y < x then y else x) :: st)) : gG X d b Q F k n pc lv (.int y :: .int x :: st) := fun H locs ls hH hS hL =>
  va_mmin hC.hx hC.hb (by rw [hC.hml, hn]; exact hL.1.symm) hC.how (hC.hts _ hw) (hC.hts _ kw_446) (hC.hts _ kw_247) (hC.hts _ kw_447) (by rw [hC.hR]; exact hR.1) (by rw [hC.hR]; omega) (by rw [hC.hR]; exact hk) (by rw [hC.hR]; exact hs) hdg (kk H locs ls hH hS hL)
/-- arraycopy of ints -/
theorem g_copy (hC : gC own cc nL rt nm R d b X) {idx a a0 n0 n1 : Nat} {f g : Nat → Int32} {sp dp z : Int32} (hw : Cond.methodLink own idx arraycopyName ∈ gWs) (hn : nL = lv.length) (hF0 : F a0 = .inl (gI d, n0, .inl f)) (hF1 : F a = .inl (gI d, n1, .inl g)) (h1 : ¬ sp < 0) (h2 : ¬ dp < 0) (h3 : ¬ z < 0) (h4 : sp.toNatClampNeg + z.toNatClampNeg ≤ n0) (h5 : dp.toNatClampNeg + z.toNatClampNeg ≤ n1) (hR : 1 ≤ R.frames ∧ (st.map fun v => v.category).sum + (nativeFrameWords "java/lang/System" "arraycopy" 5 + 11) ≤ R.locals) (hdg : decode cc pc = .ok (.invokestatic idx, 3))
    (kk : gG X d b Q (va_up F a (.inl (gI d, n1, .inl (va_cpy f g sp.toNatClampNeg dp.toNatClampNeg z.toNatClampNeg)))) k n (pc + 3) lv st) : gG X d b Q F k n pc lv (.int z :: .int dp :: .ref a :: .int sp :: .ref a0 :: st) := fun H locs ls hH hS hL => by
  obtain ⟨L, hP, hD, h0⟩ := id hH
  obtain ⟨q, hm, hq⟩ := gH.at (d := d) (b := b) (H := H) h0 hF0 g0_a
  obtain ⟨q1, hm1, hq1⟩ := gH.at (d := d) (b := b) (H := H) h0 hF1 g0_a
  exact va_copyi (D := d.1) hC.hx hC.hb (by rw [hC.hml, hn]; exact hL.1.symm) hC.how (hC.hts _ hw) (hC.hts _ kw_464) (hC.hts _ kw_463) (hC.hts _ kw_249) hC.hv.2.1 hP hD hS q q1 0 0 hq hq1 rfl rfl rfl h1 h2 h3 h4 h5 (fun _ _ => rfl) (by rw [hC.hR]; exact hR.1) (by rw [hC.hR]; exact hR.2) hdg (fun H1 locs1 hP1 hD1 hS1 => kk H1 locs1 ls (gH.set h0 hm1 hD hq1 hF1 hP1 hD1) hS1 hL)
end G3
end
section
def gTw (E : String) (d : gD) (b : Nat) : String → gM → State → Prop := fun E' u t => E' = E ∧ gH d b u t.heap
/-- a contract of a method that may throw E (px: the world then) -/
def gXi (l : Launch) (d : gD) (b : Nat) (y : MethodName) (cc : ByteArray) (mL : Nat) (rt : FieldType) (lvl mc ms : Nat) (F : gM) (As : List Value) (post : Int32 → gM → Prop) (E : String) (px : gM → Prop) : Prop :=
  vx_Met l y (gw y cc mL (some rt)) (gR lvl mc ms) (va_Pc As (gB d b F)) (va_Qi post (gB d b) (fun q => b ≤ q)) (vx_X px (gTw E d b) (fun q => b ≤ q)) mc ms (fun q => b ≤ q)
def gXv (l : Launch) (d : gD) (b : Nat) (y : MethodName) (cc : ByteArray) (mL : Nat) (lvl mc ms : Nat) (F : gM) (As : List Value) (post : gM → Prop) (E : String) (px : gM → Prop) : Prop :=
  vx_Met l y (gw y cc mL none) (gR lvl mc ms) (va_Pc As (gB d b F)) (va_Qv post (gB d b) (fun q => b ≤ q)) (vx_X px (gTw E d b) (fun q => b ≤ q)) mc ms (fun q => b ≤ q)
/-- an exception of class E on its way at pc -/
def gGx (X : gX) (d : gD) (b : Nat) (Q : State → Prop) (F : gM) (k n pc : Nat) (lv : List (Option Value)) (E : String) : Prop :=
  ∀ (H : Heap) (locs : List Loc) (ls : Array Slot) (rest : List Value) (q : Addr) (ce : Cell), gH d b F H → va_S (fun q => b ≤ q) X.st.heap H locs → gL lv ls → H[q]? = some ce → ce.vm = .none → X.st.vm.findClass E = some ce.cls → vx_W X.pr X.la X.en X.rm X.st X.mi X.ar X.be X.me X.co H locs k n Q (F0 X.mi pc ls rest) q
theorem gH.kept {d : gD} {b : Nat} {F : gM} {H H1 : Heap} (h : gH d b F H) (hk : ∀ q : Nat, q < H.size → H1[q]? = H[q]?) : gH d b F H1 := by
  obtain ⟨L, hP, hD, h0⟩ := h
  exact ⟨L, hP.kept (fun k q hq => hk q.1 (hP k q hq).lt), hD, h0⟩
theorem gX_of2 {Qc : Array Value → State → Outcome → State → Prop} {XC : String → State → State → Prop} {l : Launch} {d : gD} {b : Nat} {y : MethodName} {cc : ByteArray} {nL : Nat} {rt : Option FieldType} {lvl mc ms : Nat} {F : gM} {As : List Value} (hy : plainName y.cls = true) (hn : (lg_sl As).length ≤ nL)
    (body : ∀ X : gX, X.la = l → (∀ x ∈ X.co.exceptionTable.toList, False) → gC y.cls cc nL rt y.name (gR lvl mc ms) d b X → gG X d b (vx_MQ X.be Qc XC X.ar X.st mc ms (fun q => b ≤ q)) F 0 0 0 (gEnt As nL) []) : vx_Met l y (gw y cc nL rt) (gR lvl mc ms) (va_Pc As (gB d b F)) Qc XC mc ms (fun q => b ≤ q) := by
  refine vx_ofW (cc := cc) (maxL := nL) (ret := rt) hy rfl ?_
  intro p e s m args below meth c s₁ B hml hT hv
  obtain ⟨rfl, hV, hH⟩ := hv
  have hts := atoms_spec (ws := gw y cc nL rt) B.pre
  have hown : s.vm.findClass y.cls = some m.cls := findClass_of_methodNamed B.named
  have hent := lv_entry As (n := nL) hn
  rw [lg_entry_eq]
  exact body (p, l, e, (headSpec (gw y cc nL rt) (gR lvl mc ms)).room, s, m, As.toArray, below, meth, c) rfl hT ⟨B.exec, B.bytes, hml, hown, fun w hw => hts w (List.mem_cons_of_mem _ hw), hV, B.notSynchronized, B.returns, (name_of_methodNamed B.named B.method).1, rfl⟩ s.heap [] _ hH va_S.rf (gEnt_L hn hent)
/-- a method with a table of its own that doesn't throw -/
theorem gH_of2 {Qc : Array Value → State → Outcome → State → Prop} {l : Launch} {d : gD} {b : Nat} {y : MethodName} {cc : ByteArray} {nL : Nat} {rt : Option FieldType} {hh : List (Nat × Nat × Nat × Nat)} {lvl mc ms : Nat} {F : gM} {As : List Value} (hy : plainName y.cls = true) (hn : (lg_sl As).length ≤ nL)
    (body : ∀ X : gX, X.la = l → X.co.exceptionTable.toList = tableOf hh → gC y.cls cc nL rt y.name (gR lvl mc ms) d b X → gG X d b (MQ X.be Qc X.ar X.st mc ms (fun q => b ≤ q)) F 0 0 0 (gEnt As nL) []) : Met l y (.codeWith y cc nL rt hh :: gWs) (gR lvl mc ms) (va_Pc As (gB d b F)) Qc mc ms (fun q => b ≤ q) := by
  refine va_MetW (cc := cc) (maxL := nL) (ret := rt) (hh := hh) hy rfl ?_
  intro p e s m args below meth c s₁ B hml hv
  obtain ⟨rfl, hV, hH⟩ := hv
  have hts := atoms_spec (ws := Cond.codeWith y cc nL rt hh :: gWs) B.pre
  have hT := vx_table (x := y) B (hts _ List.mem_cons_self)
  have hown : s.vm.findClass y.cls = some m.cls := findClass_of_methodNamed B.named
  have hent := lv_entry As (n := nL) hn
  rw [lg_entry_eq]
  exact body (p, l, e, (headSpec (Cond.codeWith y cc nL rt hh :: gWs) (gR lvl mc ms)).room, s, m, As.toArray, below, meth, c) rfl hT ⟨B.exec, B.bytes, hml, hown, fun w hw => hts w (List.mem_cons_of_mem _ hw), hV, B.notSynchronized, B.returns, (name_of_methodNamed B.named B.method).1, rfl⟩ s.heap [] _ hH va_S.rf (gEnt_L hn hent)
section G4
variable {own : String} {cc : ByteArray} {nL : Nat} {rt : Option FieldType} {nm : String} {R : Room} {d : gD} {b : Nat} {X : gX} {F : gM} {k n pc : Nat} {lv : List (Option Value)} {st : List Value} {mc ms : Nat} {Q : State → Prop}
theorem g_xret {Qc : Array Value → State → Outcome → State → Prop} {XC : String → State → State → Prop} (kk : gG X d b (MQ X.be Qc X.ar X.st mc ms (fun q => b ≤ q)) F k n pc lv st) : gG X d b (vx_MQ X.be Qc XC X.ar X.st mc ms (fun q => b ≤ q)) F k n pc lv st := fun H locs ls hH hS hL => vx_ret (kk H locs ls hH hS hL)
/-- it goes out -/
theorem g_xout {Qc : Array Value → State → Outcome → State → Prop} {E : String} {px : gM → Prop} (hC : gC own cc nL rt nm R d b X) (hT : ∀ x ∈ X.co.exceptionTable.toList, False) (hp : px F) (hk : k ≤ mc) (hs : n ≤ ms) : gGx X d b (vx_MQ X.be Qc (vx_X px (gTw E d b) (fun q => b ≤ q)) X.ar X.st mc ms (fun q => b ≤ q)) F k n pc lv E := fun H locs ls rest q ce hH hS hL h1 h2 h3 =>
  vx_out (fun x hx => absurd (hT x hx) id) hC.hlk h1 h2 h3 (fun t ht hA => ⟨F, hp, ⟨rfl, by rw [ht]; exact hH⟩, hS.F ht⟩) hS.2.2 hk hs
/-- it's caught by the first row of the table -/
theorem g_xcatch {E name : String} {a1 a2 a3 a4 : Nat} (hC : gC own cc nL rt nm R d b X) (hT : X.co.exceptionTable.toList = tableOf [(a1, a2, a3, a4)]) (h1 : a1 ≤ pc ∧ pc < a2) (h4 : a4 ≠ 0) (hw : Cond.classLink own a4 name ∈ gWs) (hc : (E, name) ∈ gCs) (kk : ∀ q : Nat, gG X d b Q F k n a3 lv [.ref q]) : gGx X d b Q F k n pc lv E := fun H locs ls rest q ce hH hS hL g1 g2 g3 =>
  vx_catch hC.how [] ⟨a1, a2, a3, a4⟩ [] hT (fun z hz => by cases hz) (by simp [covers, h1.1, h1.2]) h4 (hC.hts _ hw) (va_Nw.use rfl (hC.hv.2.2.2.2.2.2.2.2.2.1 _ hc)) g1 g2 g3 (kk q H locs ls hH hS hL)

theorem g_xcallVv (hC : gC own cc nL rt nm R d b X) {y : MethodName} {c2 : ByteArray} {mL nA lvl idx : Nat} {As : List Value} {post : gM → Prop} {E : String} {px : gM → Prop} {a ci N : Nat} {T : u_T} {v0 : Value} {fs : List Value} (hc : vwCl[ci]? = some (y.cls, T, N)) (hF : F a = .inr (ci, v0 :: fs)) (hm : gXv X.la d b y c2 mL lvl mc ms F (.ref a :: As) post E px) (hl : gCV own idx y c2 mL none nA) (hA : As.length = nA) (hn : nL = lv.length) (hr : (st.map fun v => v.category).sum ≤ 8) (hf : gFit R lvl mL k n mc ms) (hdg : decode cc pc = .ok (.invokevirtual idx, 3))
    (kx : ∀ F' : gM, px F' → gGx X d b Q F' (k + mc) (n + ms) pc lv E) (kk : ∀ F' : gM, post F' → gG X d b Q F' (k + mc) (n + ms) (pc + 3) lv st) : gG X d b Q F k n pc lv (As.reverse ++ .ref a :: st) := fun H locs ls hH hS hL => by
  refine vx_callv (vx_runV (As := As) (rest := st) ⟨hC.hx, hC.hb, hC.hml, hC.how, hC.hts⟩ hm (cwV nA hC.hts hl.1 rfl rfl rfl hl.2 (by rw [hC.hR]; exact hf.1)) ⟨gB.blind, g_recv hC hc hF hH, fun U hU hW => ⟨rfl, gE_B hC hH hS hU hW⟩⟩ rfl hA (hL.1.trans hn.symm) rfl (lv_room hr) hdg (by rw [hC.hR]; exact hf.2)) hS (fun q _ h => h) (fun q h => h) (fun q _ h => h) ?_ (fun u t H1 locs1 ht hvm hp hB hz hk1 hS1 => kk u hp H1 locs1 ls (by rw [← ht]; exact hB.2) hS1 hL)
  intro E1 ce q9 u t H1 locs1 ht hvm hp hB hz hk1 hS1 h1 h2 h3
  obtain ⟨rfl, hB⟩ := hB
  exact kx u hp H1 locs1 ls st q9 ce (by rw [← ht]; exact hB) hS1 hL h1 h2 h3
theorem g_xcallVi (hC : gC own cc nL rt nm R d b X) {y : MethodName} {c2 : ByteArray} {mL nA lvl idx : Nat} {rt0 : FieldType} {As : List Value} {post : Int32 → gM → Prop} {E : String} {px : gM → Prop} {a ci N : Nat} {T : u_T} {v0 : Value} {fs : List Value} (hc : vwCl[ci]? = some (y.cls, T, N)) (hF : F a = .inr (ci, v0 :: fs)) (hm : gXi X.la d b y c2 mL rt0 lvl mc ms F (.ref a :: As) post E px) (hl : gCV own idx y c2 mL (some rt0) nA) (hA : As.length = nA) (hn : nL = lv.length) (hr : (st.map fun v => v.category).sum ≤ 8) (hf : gFit R lvl mL k n mc ms) (hdg : decode cc pc = .ok (.invokevirtual idx, 3))
    (kx : ∀ F' : gM, px F' → gGx X d b Q F' (k + mc) (n + ms) pc lv E) (kk : ∀ (r : Int32) (F' : gM), post r F' → gG X d b Q F' (k + mc) (n + ms) (pc + 3) lv (.int r :: st)) : gG X d b Q F k n pc lv (As.reverse ++ .ref a :: st) := fun H locs ls hH hS hL => by
  refine vx_calli (vx_runV (As := As) (rest := st) ⟨hC.hx, hC.hb, hC.hml, hC.how, hC.hts⟩ hm (cwV nA hC.hts hl.1 rfl rfl rfl hl.2 (by rw [hC.hR]; exact hf.1)) ⟨gB.blind, g_recv hC hc hF hH, fun U hU hW => ⟨rfl, gE_B hC hH hS hU hW⟩⟩ rfl hA (hL.1.trans hn.symm) rfl (lv_room hr) hdg (by rw [hC.hR]; exact hf.2)) hS (fun q _ h => h) (fun q h => h) (fun q _ h => h) ?_ (fun r u t H1 locs1 ht hvm hp hB hz hk1 hS1 => kk r u hp H1 locs1 ls (by rw [← ht]; exact hB.2) hS1 hL)
  intro E1 ce q9 u t H1 locs1 ht hvm hp hB hz hk1 hS1 h1 h2 h3
  obtain ⟨rfl, hB⟩ := hB
  exact kx u hp H1 locs1 ls st q9 ce (by rw [← ht]; exact hB) hS1 hL h1 h2 h3
/-- new E("..") thrown -/
theorem g_throwS {Qc : Array Value → State → Outcome → State → Prop} {px : gM → Prop} {cls text : String} {names : List String} {ik is ic i : Nat} (hC : gC own cc nL rt nm R d b X) (hl : X.la.stackTraces = false) (hT : ∀ x ∈ X.co.exceptionTable.toList, False) (hcls : Bundle.fit cls = true) (hnames : ∀ n ∈ names, Bundle.fit n = true) (hk : Cond.classLink own ik cls ∈ gWs) (hini : Cond.initialized cls ∈ gWs) (hi : gSr[i]? = some (own, is, text))
    (hat : ∀ w ∈ (vx_atS own ic cls names).filter goodWord, w ∈ gWs) (hbad : ∀ w ∈ (vx_atS own ic cls names).filter (fun w => !goodWord w), w ∈ gCs.map (fun q => Cond.castable q.1 q.2) ++ gDs.map Cond.declares) (hgood : ∀ w ∈ Cond.classLink own ik cls :: Cond.initialized cls :: vx_atS own ic cls names, vx_ot w = true) (hn : nL = lv.length)
    (d0 : decode cc pc = .ok (.new ik, 3)) (d3 : decode cc (pc + 3) = .ok (.dup, 1)) (d4 : decode cc (pc + 4) = .ok (.ldc is, 2)) (d6 : decode cc (pc + 6) = .ok (.invokespecial ic, 3)) (d9 : decode cc (pc + 9) = .ok (.athrow, 1))
    (hRf : names.length + 3 < R.frames) (hRl : (st.map fun v => v.category).sum + (13 * (names.length + 1) + 43) ≤ R.locals) (hRc : k + 1 ≤ R.cells) (hRs : n + 6 ≤ R.slots) (hp : px F) (hc : k + 1 ≤ mc) (hs : n + 6 ≤ ms) : gG X d b (vx_MQ X.be Qc (vx_X px (gTw cls d b) (fun q => b ≤ q)) X.ar X.st mc ms (fun q => b ≤ q)) F k n pc lv st := fun H locs ls hH hS hL =>
  vx_throwS hC.hx hC.hb hl hC.how hcls hnames (hC.hts _ hk) (hC.hts _ hini) (hC.hv.2.2.2.2.2.1 i _ hi) (vx_hat (fun w hw => hC.hts _ (hat w hw)) hbad (fun w hw => by
    rcases List.mem_append.mp hw with hw | hw
    · obtain ⟨q, hq, rfl⟩ := List.mem_map.mp hw
      exact va_Nw.use rfl (hC.hv.2.2.2.2.2.2.2.2.2.1 q hq)
    · obtain ⟨q, hq, rfl⟩ := List.mem_map.mp hw
      exact va_Nw.use rfl (hC.hv.2.2.2.2.2.2.2.2.2.2 q hq))) hgood hC.hv.2.2.2.2.2.2.2.1 hC.hv.2.2.2.2.2.2.2.2.1 hS (by rw [hC.hml, hn]; exact hL.1) d0 d3 d4 d6 d9 (fun x hx => absurd (hT x hx) id) (by rw [hC.hR]; exact hRf) (by rw [hC.hR]; exact hRl) (by rw [hC.hR]; exact hRc) (by rw [hC.hR]; exact hRs) hC.hlk
    (fun t hA hz hq => ⟨F, hp, ⟨rfl, hH.kept hq⟩, Nat.le_trans hS.1 hz, fun q h1 h2 => (hq q (Nat.lt_of_lt_of_le h1 hS.1)).trans (hS.2.1 q h1 h2)⟩) hS.2.2 hc hs
/-- new E() thrown -/
theorem g_throw0 {Qc : Array Value → State → Outcome → State → Prop} {px : gM → Prop} {cls : String} {names : List String} {ik ic : Nat} (hC : gC own cc nL rt nm R d b X) (hl : X.la.stackTraces = false) (hT : ∀ x ∈ X.co.exceptionTable.toList, False) (hcls : Bundle.fit cls = true) (hnames : ∀ n ∈ names, Bundle.fit n = true) (hk : Cond.classLink own ik cls ∈ gWs) (hini : Cond.initialized cls ∈ gWs)
    (hat : ∀ w ∈ (vx_at0 own ic cls names).filter goodWord, w ∈ gWs) (hbad : ∀ w ∈ (vx_at0 own ic cls names).filter (fun w => !goodWord w), w ∈ gCs.map (fun q => Cond.castable q.1 q.2) ++ gDs.map Cond.declares) (hgood : ∀ w ∈ Cond.classLink own ik cls :: Cond.initialized cls :: vx_at0 own ic cls names, vx_ot w = true) (hn : nL = lv.length)
    (d0 : decode cc pc = .ok (.new ik, 3)) (d3 : decode cc (pc + 3) = .ok (.dup, 1)) (d4 : decode cc (pc + 4) = .ok (.invokespecial ic, 3)) (d7 : decode cc (pc + 7) = .ok (.athrow, 1))
    (hRf : names.length + 3 < R.frames) (hRl : (st.map fun v => v.category).sum + (13 * (names.length + 1) + 42) ≤ R.locals) (hRc : k + 1 ≤ R.cells) (hRs : n + 6 ≤ R.slots) (hp : px F) (hc : k + 1 ≤ mc) (hs : n + 6 ≤ ms) : gG X d b (vx_MQ X.be Qc (vx_X px (gTw cls d b) (fun q => b ≤ q)) X.ar X.st mc ms (fun q => b ≤ q)) F k n pc lv st := fun H locs ls hH hS hL =>
  vx_throw0 hC.hx hC.hb hl hC.how hcls hnames (hC.hts _ hk) (hC.hts _ hini) (vx_hat (fun w hw => hC.hts _ (hat w hw)) hbad (fun w hw => by
    rcases List.mem_append.mp hw with hw | hw
    · obtain ⟨q, hq, rfl⟩ := List.mem_map.mp hw
      exact va_Nw.use rfl (hC.hv.2.2.2.2.2.2.2.2.2.1 q hq)
    · obtain ⟨q, hq, rfl⟩ := List.mem_map.mp hw
      exact va_Nw.use rfl (hC.hv.2.2.2.2.2.2.2.2.2.2 q hq))) hgood hC.hv.2.2.2.2.2.2.2.1 hC.hv.2.2.2.2.2.2.2.2.1 hS (by rw [hC.hml, hn]; exact hL.1) d0 d3 d4 d7 (fun x hx => absurd (hT x hx) id) (by rw [hC.hR]; exact hRf) (by rw [hC.hR]; exact hRl) (by rw [hC.hR]; exact hRc) (by rw [hC.hR]; exact hRs) hC.hlk
    (fun t hA hz hq => ⟨F, hp, ⟨rfl, hH.kept hq⟩, Nat.le_trans hS.1 hz, fun q h1 h2 => (hq q (Nat.lt_of_lt_of_le h1 hS.1)).trans (hS.2.1 q h1 h2)⟩) hS.2.2 hc hs
/-- a method with a table, called -/
def gCVW (own : String) (idx : Nat) (y : MethodName) (cc : ByteArray) (mL : Nat) (rt : Option FieldType) (hh : List (Nat × Nat × Nat × Nat)) (nA : Nat) : Prop := GoodIn gWs (wsV own idx y.cls y (.codeWith y cc mL rt hh :: gWs)) ∧ (y.cls = y.cls ∧ y.cls ≠ "java/lang/invoke/MethodHandle" ∧ y.cls ≠ "java/lang/invoke/VarHandle" ∧ (parseMethodDescriptor y.desc).map (fun d => d.parameters.length) = some nA)
theorem g_callVWi {rt0 : FieldType} {hh : List (Nat × Nat × Nat × Nat)} (hC : gC own cc nL rt nm R d b X) {y : MethodName} {c2 : ByteArray} {mL nA lvl idx : Nat} {As : List Value} {post : Int32 → gM → Prop} {a ci N : Nat} {T : u_T} {v0 : Value} {fs : List Value} (hc : vwCl[ci]? = some (y.cls, T, N)) (hF : F a = .inr (ci, v0 :: fs)) (hm : Met X.la y (.codeWith y c2 mL (some rt0) hh :: gWs) (gR lvl mc ms) (va_Pc (.ref a :: As) (gB d b F)) (va_Qi post (gB d b) (fun q => b ≤ q)) mc ms (fun q => b ≤ q)) (hl : gCVW own idx y c2 mL (some rt0) hh nA) (hA : As.length = nA) (hn : nL = lv.length) (hr : (st.map fun v => v.category).sum ≤ 8) (hf : gFit R lvl mL k n mc ms) (hdg : decode cc pc = .ok (.invokevirtual idx, 3)) (kk : ∀ (r : Int32) (F' : gM), post r F' → gG X d b Q F' (k + mc) (n + ms) (pc + 3) lv (.int r :: st)) : gG X d b Q F k n pc lv (As.reverse ++ .ref a :: st) := fun H locs ls hH hS hL => by
  exact va_calli (vx_runVW (As := As) (rest := st) ⟨hC.hx, hC.hb, hC.hml, hC.how, hC.hts⟩ hm (vx_cwVW nA hC.hts hl.1 rfl rfl rfl hl.2 (by rw [hC.hR]; exact hf.1)) ⟨gB.blind, g_recv hC hc hF hH, fun U hU hW => ⟨rfl, gE_B hC hH hS hU hW⟩⟩ rfl hA (hL.1.trans hn.symm) rfl (lv_room hr) hdg (by rw [hC.hR]; exact hf.2)) hS (fun q _ h => h) (fun q h => h) (fun r u t H1 locs1 ht hvm hp hB hz hk1 hS1 => kk r u hp H1 locs1 ls (by rw [← ht]; exact hB.2) hS1 hL)
def gCSW (own : String) (idx : Nat) (y : MethodName) (cc : ByteArray) (mL : Nat) (rt : Option FieldType) (hh : List (Nat × Nat × Nat × Nat)) (nA : Nat) : Prop := GoodIn gWs (va_wsS own idx y (.codeWith y cc mL rt hh :: gWs)) ∧ (y.cls ≠ "java/lang/invoke/MethodHandle" ∧ y.cls ≠ "java/lang/invoke/VarHandle" ∧ (parseMethodDescriptor y.desc).map (fun d => d.parameters.length) = some nA)
theorem g_callSWi {rt0 : FieldType} {hh : List (Nat × Nat × Nat × Nat)} (hC : gC own cc nL rt nm R d b X) {y : MethodName} {c2 : ByteArray} {mL nA lvl idx : Nat} {As : List Value} {post : Int32 → gM → Prop} (hm : Met X.la y (.codeWith y c2 mL (some rt0) hh :: gWs) (gR lvl mc ms) (va_Pc As (gB d b F)) (va_Qi post (gB d b) (fun q => b ≤ q)) mc ms (fun q => b ≤ q)) (hl : gCSW own idx y c2 mL (some rt0) hh nA) (hA : As.length = nA) (hn : nL = lv.length) (hr : (st.map fun v => v.category).sum ≤ 8) (hf : gFit R lvl mL k n mc ms) (hdg : decode cc pc = .ok (.invokestatic idx, 3)) (kk : ∀ (r : Int32) (F' : gM), post r F' → gG X d b Q F' (k + mc) (n + ms) (pc + 3) lv (.int r :: st)) : gG X d b Q F k n pc lv (As.reverse ++ st) := fun H locs ls hH hS hL => by
  exact va_calli (vx_runSW (As := As) (rest := st) ⟨hC.hx, hC.hb, hC.hml, hC.how, hC.hts⟩ hm (vx_cwSW nA hC.hts hl.1 rfl rfl rfl hl.2 (by rw [hC.hR]; exact hf.1)) ⟨gB.blind, fun U hU hW => ⟨rfl, gE_B hC hH hS hU hW⟩⟩ rfl hA (hL.1.trans hn.symm) rfl (lv_room hr) hdg (by rw [hC.hR]; exact hf.2)) hS (fun q _ h => h) (fun q h => h) (fun r u t H1 locs1 ht hvm hp hB hz hk1 hS1 => kk r u hp H1 locs1 ls (by rw [← ht]; exact hB.2) hS1 hL)
end G4
end
section
theorem kw_288 : Cond.arrayClass .int ∈ gWs := gWm 288 (by decide +kernel) rfl
theorem kw_461 : Cond.methodLink RJ7 304 Lib.Math.min.name ∈ gWs := gWm 461 (by decide +kernel) rfl
theorem kw_462 : Cond.methodLink RJ7 150 arraycopyName ∈ gWs := gWm 462 (by decide +kernel) rfl
theorem kw_280 : Cond.fieldLink RX4 13 "WordTongue$Ints" "size" "I" ∈ gWs := gWm 280 (by decide +kernel) rfl
theorem kw_281 : Cond.laysFinal RX4 "WordTongue$Ints" "most" "I" ∈ gWs := gWm 281 (by decide +kernel) rfl
theorem kw_283 : Cond.lays RX4 "WordTongue$Ints" "cells" "[I" ∈ gWs := gWm 283 (by decide +kernel) rfl
theorem kw_285 : Cond.lays RX4 "WordTongue$Ints" "size" "I" ∈ gWs := gWm 285 (by decide +kernel) rfl
set_option maxRecDepth 20000 in
theorem inW_RX4 : ∀ w ∈ u_ws RX4 TX4 3, w ∈ gWs := List.forall_mem_cons.mpr ⟨kw_281, List.forall_mem_cons.mpr ⟨kw_283, List.forall_mem_cons.mpr ⟨kw_285, fun _ h => nomatch h⟩⟩⟩
theorem fl_X4_13 : gFL RX4 13 4 2 .int false := ⟨RX4, TX4, 3, tyX4, rfl, by decide, inW_RX4, kw_280, tyX4_ok, nmX4, rfl, by decide +kernel, fun h => by cases h⟩
theorem kw_277 : Cond.methodLink RX4 1 objectInit ∈ gWs := gWm 277 (by decide +kernel) rfl
theorem kw_279 : Cond.fieldLink RX4 7 "WordTongue$Ints" "cells" "[I" ∈ gWs := gWm 279 (by decide +kernel) rfl
theorem fl_X4_7 : gFL RX4 7 4 1 (.array .int) false := ⟨RX4, TX4, 3, tyX4, rfl, by decide, inW_RX4, kw_279, tyX4_ok, nmX4, rfl, by decide +kernel, fun h => by cases h⟩
theorem kw_278 : Cond.fieldLink RX4 17 "WordTongue$Ints" "most" "I" ∈ gWs := gWm 278 (by decide +kernel) rfl
theorem fl_X4_17 : gFL RX4 17 4 0 .int true := ⟨RX4, TX4, 3, tyX4, rfl, by decide, inW_RX4, kw_278, tyX4_ok, nmX4, rfl, by decide +kernel, fun _ => rfl⟩
theorem kw_445 : Cond.methodLink RX4 20 Lib.Math.min.name ∈ gWs := gWm 445 (by decide +kernel) rfl
theorem kw_448 : Cond.methodLink RX4 26 Lib.Math.max.name ∈ gWs := gWm 448 (by decide +kernel) rfl
theorem kw_248 : Cond.initialized RJ7 ∈ gWs := gWm 248 (by decide +kernel) rfl
theorem kw_453 : Cond.code yJ7_copyOf_59c91 cJ7_copyOf_59c91 3 (some (.array .int)) ∈ gWs := gWm 453 (by decide +kernel) rfl
theorem kw_451 : Cond.methodLink RX4 29 yJ7_copyOf_59c91 ∈ gWs := gWm 451 (by decide +kernel) rfl
theorem kw_452 : Cond.static yJ7_copyOf_59c91 ∈ gWs := gWm 452 (by decide +kernel) rfl
theorem cl_X4_29 : gCS RX4 29 yJ7_copyOf_59c91 cJ7_copyOf_59c91 3 (some (.array .int)) 2 := ⟨g_mk [.methodLink RX4 29 yJ7_copyOf_59c91, .static yJ7_copyOf_59c91, .initialized yJ7_copyOf_59c91.cls] (gWs_all kw_453) (List.forall_mem_cons.mpr ⟨kw_451, List.forall_mem_cons.mpr ⟨kw_452, List.forall_mem_cons.mpr ⟨kw_248, fun _ h => nomatch h⟩⟩⟩), ⟨by decide +kernel, by decide +kernel, by decide +kernel⟩⟩
/-- a row of ints at a, its cells at q: at most mo of them; sz there, f; n cells -/
def gIn (d : gD) (F : gM) (a q mo n sz : Nat) (f : Nat → Int32) : Prop := F a = .inr (4, [.int (nI mo), .ref q, .int (nI sz)]) ∧ F q = .inl (gI d, n, .inl f) ∧ sz ≤ n ∧ 16 ≤ n ∧ n ≤ mo ∧ mo ≤ 1000000
def gGet (f : Nat → Int32) (sz : Nat) (i : Int32) : Int32 := if i < 0 then 0 else if i.toNatClampNeg < sz then f i.toNatClampNeg else 0
def gAc (n sz : Nat) : Nat := if sz < n then 0 else 1
def gAn (mo n sz : Nat) : Nat := if sz < n then n else min mo (2 * n)
def gAs (mo n sz : Nat) : Nat := if sz < n then 0 else min mo (2 * n)
/-- all cells but those at a and q are as they were -/
def gFr (F F' : gM) (a q : Nat) : Prop := ∀ x : Nat, x ≠ a → x ≠ q → F x ≠ g0 → F' x = F x
theorem va_up_up {α : Type} (f : Nat → α) (k : Nat) (v u : α) : va_up (va_up f k v) k u = va_up f k u := funext fun j => by unfold va_up; split <;> rfl
theorem dJ7_copyOf_59c91_0 : decode cJ7_copyOf_59c91 0 = .ok (.iload_n 1, 1) := by decide +kernel
theorem dJ7_copyOf_59c91_1 : decode cJ7_copyOf_59c91 1 = .ok (.aload_n 0, 1) := by decide +kernel
theorem dJ7_copyOf_59c91_2 : decode cJ7_copyOf_59c91 2 = .ok (.arraylength, 1) := by decide +kernel
theorem dJ7_copyOf_59c91_3 : decode cJ7_copyOf_59c91 3 = .ok (.if_icmp .ne 11, 3) := by decide +kernel
theorem dJ7_copyOf_59c91_6 : decode cJ7_copyOf_59c91 6 = .ok (.aload_n 0, 1) := by decide +kernel
theorem dJ7_copyOf_59c91_7 : decode cJ7_copyOf_59c91 7 = .ok (.invokevirtual 316, 3) := by decide +kernel
theorem dJ7_copyOf_59c91_10 : decode cJ7_copyOf_59c91 10 = .ok (.checkcast 317, 3) := by decide +kernel
theorem dJ7_copyOf_59c91_13 : decode cJ7_copyOf_59c91 13 = .ok (.areturn, 1) := by decide +kernel
theorem dJ7_copyOf_59c91_14 : decode cJ7_copyOf_59c91 14 = .ok (.iload_n 1, 1) := by decide +kernel
theorem dJ7_copyOf_59c91_15 : decode cJ7_copyOf_59c91 15 = .ok (.newarray .int, 2) := by decide +kernel
theorem dJ7_copyOf_59c91_17 : decode cJ7_copyOf_59c91 17 = .ok (.astore_n 2, 1) := by decide +kernel
theorem dJ7_copyOf_59c91_18 : decode cJ7_copyOf_59c91 18 = .ok (.aload_n 0, 1) := by decide +kernel
theorem dJ7_copyOf_59c91_19 : decode cJ7_copyOf_59c91 19 = .ok (.iconst 0, 1) := by decide +kernel
theorem dJ7_copyOf_59c91_20 : decode cJ7_copyOf_59c91 20 = .ok (.aload_n 2, 1) := by decide +kernel
theorem dJ7_copyOf_59c91_21 : decode cJ7_copyOf_59c91 21 = .ok (.iconst 0, 1) := by decide +kernel
theorem dJ7_copyOf_59c91_22 : decode cJ7_copyOf_59c91 22 = .ok (.aload_n 0, 1) := by decide +kernel
theorem dJ7_copyOf_59c91_23 : decode cJ7_copyOf_59c91 23 = .ok (.arraylength, 1) := by decide +kernel
theorem dJ7_copyOf_59c91_24 : decode cJ7_copyOf_59c91 24 = .ok (.iload_n 1, 1) := by decide +kernel
theorem dJ7_copyOf_59c91_25 : decode cJ7_copyOf_59c91 25 = .ok (.invokestatic 304, 3) := by decide +kernel
theorem dJ7_copyOf_59c91_28 : decode cJ7_copyOf_59c91 28 = .ok (.invokestatic 150, 3) := by decide +kernel
theorem dJ7_copyOf_59c91_31 : decode cJ7_copyOf_59c91 31 = .ok (.aload_n 2, 1) := by decide +kernel
theorem dJ7_copyOf_59c91_32 : decode cJ7_copyOf_59c91 32 = .ok (.areturn, 1) := by decide +kernel
set_option maxHeartbeats 4000000 in
set_option maxRecDepth 100000 in
theorem c_copyOf (l : Launch) (d : gD) (b : Nat) (F : gM) (q n N : Nat) (f : Nat → Int32) (hq : F q = .inl (gI d, n, .inl f)) (hN : n < N) (hM : N ≤ 1000000) : gMq l d b yJ7_copyOf_59c91 cJ7_copyOf_59c91 3 (.array .int) 1 1 N F [.ref q, .int (nI N)] (fun r F' => ∃ q' : Nat, r = some q' ∧ F q' = g0 ∧ F' = va_up F q' (.inl (gI d, N, .inl (va_cpy f (fun _ => 0) 0 0 n)))) := by
  refine gM_of2 rfl (nL := 3) (Nat.le_of_ble_eq_true rfl) ?_
  intro X hX hC; subst hX
  show gG X d b _ F 0 0 0 [some (.ref q), some (.int (nI N)), none] []
  refine g_iload_n hC dJ7_copyOf_59c91_0 rfl ?_
  refine g_aload_n hC dJ7_copyOf_59c91_1 rfl ?_
  refine g_alen hC 0 hq rfl dJ7_copyOf_59c91_2 ?_
  refine g_icmp_ne (tgt := 14) hC dJ7_copyOf_59c91_3 (by decide) (fun c1 => ?_) (fun c1 => ?_)
  · refine g_iload_n hC dJ7_copyOf_59c91_14 rfl ?_
    refine g_newa (atype := .int) (N := N) (a0 := (N, (.inl (fun _ => 0)))) hC 0 kw_288 rfl (by decide) (fun _ => rfl) (nI_pos (by omega)) (nI_clamp (by omega)) (by show N * 4 ≤ 536870912; omega) (by first | omega | (simp only [gR]; omega)) (by first | omega | (simp only [gR]; omega)) dJ7_copyOf_59c91_15 (fun q2 e_q2 => ?_)
    refine g_vF (fun F3 hF3 => ?_)
    have f5 : F3 q = .inl (gI d, n, .inl f) := by rw [hF3, va_up_ne _ _ (gne hq e_q2 g0_a)]; exact hq
    have f4 : F3 q2 = .inl (gI d, N, .inl (fun _ => 0)) := by rw [hF3]; exact va_up_self _ _ _
    refine g_astore_n (lv' := [some (.ref q), some (.int (nI N)), some (.ref q2)]) hC dJ7_copyOf_59c91_17 (Nat.le_of_ble_eq_true rfl) rfl rfl ?_
    refine g_aload_n hC dJ7_copyOf_59c91_18 rfl ?_
    refine g_iconst (v := 0) hC dJ7_copyOf_59c91_19 rfl ?_
    refine g_aload_n hC dJ7_copyOf_59c91_20 rfl ?_
    refine g_iconst (v := 0) hC dJ7_copyOf_59c91_21 rfl ?_
    refine g_aload_n hC dJ7_copyOf_59c91_22 rfl ?_
    refine g_alen hC 0 f5 rfl dJ7_copyOf_59c91_23 ?_
    refine g_iload_n hC dJ7_copyOf_59c91_24 rfl ?_
    refine g_min hC kw_461 rfl ⟨Nat.le_of_ble_eq_true rfl, Nat.le_of_ble_eq_true rfl⟩ (Nat.le_of_ble_eq_true rfl) (by first | omega | (simp only [gR]; omega)) (by first | omega | (simp only [gR]; omega)) dJ7_copyOf_59c91_25 ?_
    refine g_vi (fun x6 ex6 => ?_)
    have zx6 : x6 = nI n := by rw [ex6, if_neg (nI_nlt (Nat.le_of_lt hN) (by omega))]
    subst zx6
    refine g_copy hC kw_462 rfl f5 f4 (by decide) (by decide) (nI_pos (by omega)) (by rw [nI_clamp (by omega)]; show 0 + n ≤ n; omega) (by rw [nI_clamp (by omega)]; show 0 + n ≤ N; omega) ⟨Nat.le_of_ble_eq_true rfl, Nat.le_of_ble_eq_true rfl⟩ dJ7_copyOf_59c91_28 ?_
    refine g_vF (fun F7 hF7 => ?_)
    have f9 : F7 q = .inl (gI d, n, .inl f) := by rw [hF7, va_up_ne _ _ (gne hq e_q2 g0_a)]; exact f5
    have f8 : F7 q2 = .inl (gI d, N, .inl (va_cpy f (fun _ => 0) 0 0 n)) := by rw [hF7]; exact by rw [va_up_self, nI_clamp (by omega)]; rfl
    refine g_aload_n hC dJ7_copyOf_59c91_31 rfl ?_
    refine g_aret (v := some q2) hC (Or.inr ⟨_, rfl⟩) ⟨q2, rfl, e_q2, ?_⟩ (by first | omega | (simp only [gR]; omega)) (by first | omega | (simp only [gR]; omega)) dJ7_copyOf_59c91_32
    rw [hF7, hF3, va_up_up, nI_clamp (by omega)]; rfl
  · exact absurd ((nI_eq (by omega) (by omega)).mp c1) (by omega)
theorem dX4_size_0 : decode cX4_size 0 = .ok (.aload_n 0, 1) := by decide +kernel
theorem dX4_size_1 : decode cX4_size 1 = .ok (.getfield 13, 3) := by decide +kernel
theorem dX4_size_4 : decode cX4_size 4 = .ok (.ireturn, 1) := by decide +kernel
set_option maxHeartbeats 4000000 in
set_option maxRecDepth 100000 in
theorem c_Ints_size (l : Launch) (d : gD) (b : Nat) (F : gM) (a q mo n sz : Nat) (f : Nat → Int32) (h : gIn d F a q mo n sz f) : gMi l d b yX4_size cX4_size 1 .int 0 0 0 F [.ref a] (fun r F' => r = nI sz ∧ F' = F) := by
  refine gM_of2 rfl (nL := 1) (Nat.le_of_ble_eq_true rfl) ?_
  intro X hX hC; subst hX
  show gG X d b _ F 0 0 0 [some (.ref a)] []
  obtain ⟨hA, hQ, h1, h2, h3, h4⟩ := id h
  refine g_aload_n hC dX4_size_0 rfl ?_
  refine g_get hC fl_X4_13 hA rfl dX4_size_1 ?_
  exact g_iret hC rfl ⟨rfl, rfl⟩ (by first | omega | (simp only [gR]; omega)) (by first | omega | (simp only [gR]; omega)) dX4_size_4
theorem dX4_init_0 : decode cX4_init 0 = .ok (.aload_n 0, 1) := by decide +kernel
theorem dX4_init_1 : decode cX4_init 1 = .ok (.invokespecial 1, 3) := by decide +kernel
theorem dX4_init_4 : decode cX4_init 4 = .ok (.aload_n 0, 1) := by decide +kernel
theorem dX4_init_5 : decode cX4_init 5 = .ok (.bipush 16, 2) := by decide +kernel
theorem dX4_init_7 : decode cX4_init 7 = .ok (.newarray .int, 2) := by decide +kernel
theorem dX4_init_9 : decode cX4_init 9 = .ok (.putfield 7, 3) := by decide +kernel
theorem dX4_init_12 : decode cX4_init 12 = .ok (.aload_n 0, 1) := by decide +kernel
theorem dX4_init_13 : decode cX4_init 13 = .ok (.iconst 0, 1) := by decide +kernel
theorem dX4_init_14 : decode cX4_init 14 = .ok (.putfield 13, 3) := by decide +kernel
theorem dX4_init_17 : decode cX4_init 17 = .ok (.aload_n 0, 1) := by decide +kernel
theorem dX4_init_18 : decode cX4_init 18 = .ok (.iload_n 1, 1) := by decide +kernel
theorem dX4_init_19 : decode cX4_init 19 = .ok (.putfield 17, 3) := by decide +kernel
theorem dX4_init_22 : decode cX4_init 22 = .ok (.return_, 1) := by decide +kernel
set_option maxHeartbeats 4000000 in
set_option maxRecDepth 100000 in
theorem c_Ints_init (l : Launch) (d : gD) (b : Nat) (F : gM) (a mo : Nat) (hA : F a = .inr (4, [.int 0, .null, .int 0])) (hm : 16 ≤ mo) (hM : mo ≤ 1000000) : gMv l d b yX4_init cX4_init 2 1 1 16 F [.ref a, .int (nI mo)] (fun F' => ∃ q : Nat, F q = g0 ∧ gIn d F' a q mo 16 0 (fun _ => 0) ∧ ∀ x : Nat, x ≠ a → F x ≠ g0 → F' x = F x) := by
  refine gM_of2 rfl (nL := 2) (Nat.le_of_ble_eq_true rfl) ?_
  intro X hX hC; subst hX
  show gG X d b _ F 0 0 0 [some (.ref a), some (.int (nI mo))] []
  refine g_aload_n hC dX4_init_0 rfl ?_
  refine g_objInit hC dX4_init_1 kw_277 rfl ⟨Nat.le_of_ble_eq_true rfl, Nat.le_of_ble_eq_true rfl⟩ (Nat.le_of_ble_eq_true rfl) ?_
  refine g_aload_n hC dX4_init_4 rfl ?_
  refine g_bipush (v := 16) hC dX4_init_5 rfl ?_
  refine g_newa (atype := .int) (N := 16) (a0 := (16, (.inl (fun _ => 0)))) hC 0 kw_288 rfl (by decide) (fun _ => rfl) (by decide) rfl (Nat.le_of_ble_eq_true rfl) (by first | omega | (simp only [gR]; omega)) (by first | omega | (simp only [gR]; omega)) dX4_init_7 (fun q1 e_q1 => ?_)
  refine g_vF (fun F2 hF2 => ?_)
  have f4 : F2 a = .inr (4, [.int 0, .null, .int 0]) := by rw [hF2, va_up_ne _ _ (gne hA e_q1 g0_o)]; exact hA
  have f3 : F2 q1 = .inl (gI d, 16, .inl (fun _ => 0)) := by rw [hF2]; exact va_up_self _ _ _
  refine g_put hC fl_X4_7 f4 rfl rfl (Nat.le_of_ble_eq_true rfl) dX4_init_9 ?_
  refine g_vF (fun F5 hF5 => ?_)
  have f7 : F5 q1 = .inl (gI d, 16, .inl (fun _ => 0)) := by rw [hF5, va_up_ne _ _ (gne f3 f4 gk_ao)]; exact f3
  have f6 : F5 a = .inr (4, [.int 0, .ref q1, .int 0]) := by rw [hF5]; exact va_up_self _ _ _
  refine g_aload_n hC dX4_init_12 rfl ?_
  refine g_iconst (v := 0) hC dX4_init_13 rfl ?_
  refine g_put hC fl_X4_13 f6 rfl rfl (Nat.le_of_ble_eq_true rfl) dX4_init_14 ?_
  refine g_vF (fun F8 hF8 => ?_)
  have f10 : F8 q1 = .inl (gI d, 16, .inl (fun _ => 0)) := by rw [hF8, va_up_ne _ _ (gne f7 f6 gk_ao)]; exact f7
  have f9 : F8 a = .inr (4, [.int 0, .ref q1, .int 0]) := by rw [hF8]; exact va_up_self _ _ _
  refine g_aload_n hC dX4_init_17 rfl ?_
  refine g_iload_n hC dX4_init_18 rfl ?_
  refine g_putF hC fl_X4_17 f9 rfl rfl (Nat.le_of_ble_eq_true rfl) dX4_init_19 ?_
  refine g_vF (fun F11 hF11 => ?_)
  have f13 : F11 q1 = .inl (gI d, 16, .inl (fun _ => 0)) := by rw [hF11, va_up_ne _ _ (gne f10 f9 gk_ao)]; exact f10
  have f12 : F11 a = .inr (4, [.int (nI mo), .ref q1, .int 0]) := by rw [hF11]; exact va_up_self _ _ _
  exact g_vret hC ⟨q1, e_q1, ⟨f12, f13, Nat.zero_le _, Nat.le_refl _, hm, hM⟩, fun x hx h0 => by rw [hF11, hF8, hF5, hF2, va_up_ne _ _ hx, va_up_ne _ _ hx, va_up_ne _ _ hx, va_up_ne _ _ (fun z => h0 (by rw [z]; exact e_q1))]⟩ (by first | omega | (simp only [gR]; omega)) (by first | omega | (simp only [gR]; omega)) dX4_init_22
theorem gmv {i : Int32} {n : Nat} (h0 : ¬ i < 0) (h : ¬ nI n ≤ i) (hn : n < 2 ^ 31) : i.toNatClampNeg < n := by
  obtain ⟨j, hj, rfl⟩ := nI_of h0
  rw [nI_clamp hj]
  exact Nat.not_le.mp fun q => h (nI_le q hj)
theorem gmg {i : Int32} {n : Nat} (h0 : ¬ i < 0) (h : nI n ≤ i) (hn : n < 2 ^ 31) : ¬ i.toNatClampNeg < n := by
  obtain ⟨j, hj, rfl⟩ := nI_of h0
  rw [nI_clamp hj]
  exact Nat.not_lt.mpr ((nI_leI hn hj).mp h)
theorem gmi {i : Int32} {n : Nat} (h0 : ¬ i < 0) (h : i.toNatClampNeg < n) : vp_in i n := fun z => z.elim h0 (fun q => Nat.not_le.mpr h q)
theorem dX4_get_0 : decode cX4_get 0 = .ok (.iload_n 1, 1) := by decide +kernel
theorem dX4_get_1 : decode cX4_get 1 = .ok (.ifCond .lt 29, 3) := by decide +kernel
theorem dX4_get_4 : decode cX4_get 4 = .ok (.iload_n 1, 1) := by decide +kernel
theorem dX4_get_5 : decode cX4_get 5 = .ok (.aload_n 0, 1) := by decide +kernel
theorem dX4_get_6 : decode cX4_get 6 = .ok (.getfield 13, 3) := by decide +kernel
theorem dX4_get_9 : decode cX4_get 9 = .ok (.if_icmp .ge 21, 3) := by decide +kernel
theorem dX4_get_12 : decode cX4_get 12 = .ok (.iload_n 1, 1) := by decide +kernel
theorem dX4_get_13 : decode cX4_get 13 = .ok (.aload_n 0, 1) := by decide +kernel
theorem dX4_get_14 : decode cX4_get 14 = .ok (.getfield 7, 3) := by decide +kernel
theorem dX4_get_17 : decode cX4_get 17 = .ok (.arraylength, 1) := by decide +kernel
theorem dX4_get_18 : decode cX4_get 18 = .ok (.if_icmp .ge 12, 3) := by decide +kernel
theorem dX4_get_21 : decode cX4_get 21 = .ok (.aload_n 0, 1) := by decide +kernel
theorem dX4_get_22 : decode cX4_get 22 = .ok (.getfield 7, 3) := by decide +kernel
theorem dX4_get_25 : decode cX4_get 25 = .ok (.iload_n 1, 1) := by decide +kernel
theorem dX4_get_26 : decode cX4_get 26 = .ok (.iaload, 1) := by decide +kernel
theorem dX4_get_27 : decode cX4_get 27 = .ok (.goto 4, 3) := by decide +kernel
theorem dX4_get_30 : decode cX4_get 30 = .ok (.iconst 0, 1) := by decide +kernel
theorem dX4_get_31 : decode cX4_get 31 = .ok (.ireturn, 1) := by decide +kernel
set_option maxHeartbeats 4000000 in
set_option maxRecDepth 100000 in
theorem c_Ints_get (l : Launch) (d : gD) (b : Nat) (F : gM) (a q mo n sz : Nat) (f : Nat → Int32) (h : gIn d F a q mo n sz f) (i : Int32) : gMi l d b yX4_get cX4_get 2 .int 0 0 0 F [.ref a, .int i] (fun r F' => r = gGet f sz i ∧ F' = F) := by
  refine gM_of2 rfl (nL := 2) (Nat.le_of_ble_eq_true rfl) ?_
  intro X hX hC; subst hX
  show gG X d b _ F 0 0 0 [some (.ref a), some (.int i)] []
  obtain ⟨hA, hQ, h1, h2, h3, h4⟩ := id h
  refine g_iload_n hC dX4_get_0 rfl ?_
  refine g_if_lt (tgt := 30) hC dX4_get_1 (by decide) (fun c1 => ?_) (fun c1 => ?_)
  · refine g_iconst (v := 0) hC dX4_get_30 rfl ?_
    exact g_iret hC rfl ⟨by unfold gGet; rw [if_pos c1], rfl⟩ (by first | omega | (simp only [gR]; omega)) (by first | omega | (simp only [gR]; omega)) dX4_get_31
  · refine g_iload_n hC dX4_get_4 rfl ?_
    refine g_aload_n hC dX4_get_5 rfl ?_
    refine g_get hC fl_X4_13 hA rfl dX4_get_6 ?_
    refine g_icmp_ge (tgt := 30) hC dX4_get_9 (by decide) (fun c2 => ?_) (fun c2 => ?_)
    · refine g_iconst (v := 0) hC dX4_get_30 rfl ?_
      exact g_iret hC rfl ⟨by unfold gGet; rw [if_neg c1, if_neg (fun z => gmg c1 c2 (by omega) z)], rfl⟩ (by first | omega | (simp only [gR]; omega)) (by first | omega | (simp only [gR]; omega)) dX4_get_31
    · refine g_iload_n hC dX4_get_12 rfl ?_
      refine g_aload_n hC dX4_get_13 rfl ?_
      refine g_get hC fl_X4_7 hA rfl dX4_get_14 ?_
      refine g_alen hC 0 hQ rfl dX4_get_17 ?_
      refine g_icmp_ge (tgt := 30) hC dX4_get_18 (by decide) (fun c3 => ?_) (fun c3 => ?_)
      · exact absurd (gmv c1 c2 (by omega)) (fun z => gmg c1 c3 (by omega) (by omega))
      · refine g_aload_n hC dX4_get_21 rfl ?_
        refine g_get hC fl_X4_7 hA rfl dX4_get_22 ?_
        refine g_iload_n hC dX4_get_25 rfl ?_
        refine g_iald hC hQ (gmi c1 (gmv c1 c3 (by omega))) dX4_get_26 ?_
        refine g_vi (fun x4 ex4 => ?_)
        refine g_goto (tgt := 31) hC dX4_get_27 (by decide) ?_
        exact g_iret hC rfl ⟨by unfold gGet; rw [if_neg c1, if_pos (gmv c1 c2 (by omega))]; exact ex4, rfl⟩ (by first | omega | (simp only [gR]; omega)) (by first | omega | (simp only [gR]; omega)) dX4_get_31
theorem nI_toN {i : Int32} (h : ¬ i < 0) : i = nI i.toNatClampNeg := by
  obtain ⟨j, hj, rfl⟩ := nI_of h
  rw [nI_clamp hj]
theorem dX4_cut_0 : decode cX4_cut 0 = .ok (.iload_n 1, 1) := by decide +kernel
theorem dX4_cut_1 : decode cX4_cut 1 = .ok (.ifCond .lt 16, 3) := by decide +kernel
theorem dX4_cut_4 : decode cX4_cut 4 = .ok (.iload_n 1, 1) := by decide +kernel
theorem dX4_cut_5 : decode cX4_cut 5 = .ok (.aload_n 0, 1) := by decide +kernel
theorem dX4_cut_6 : decode cX4_cut 6 = .ok (.getfield 13, 3) := by decide +kernel
theorem dX4_cut_9 : decode cX4_cut 9 = .ok (.if_icmp .ge 8, 3) := by decide +kernel
theorem dX4_cut_12 : decode cX4_cut 12 = .ok (.aload_n 0, 1) := by decide +kernel
theorem dX4_cut_13 : decode cX4_cut 13 = .ok (.iload_n 1, 1) := by decide +kernel
theorem dX4_cut_14 : decode cX4_cut 14 = .ok (.putfield 13, 3) := by decide +kernel
theorem dX4_cut_17 : decode cX4_cut 17 = .ok (.return_, 1) := by decide +kernel
set_option maxHeartbeats 4000000 in
set_option maxRecDepth 100000 in
theorem c_Ints_cut (l : Launch) (d : gD) (b : Nat) (F : gM) (a q mo n sz : Nat) (f : Nat → Int32) (h : gIn d F a q mo n sz f) (i : Int32) : gMv l d b yX4_cut cX4_cut 2 0 0 0 F [.ref a, .int i] (fun F' => (¬ i < 0 ∧ i.toNatClampNeg < sz → gIn d F' a q mo n i.toNatClampNeg f) ∧ (i < 0 ∨ nI sz ≤ i → F' = F) ∧ ∀ x : Nat, x ≠ a → F x ≠ g0 → F' x = F x) := by
  refine gM_of2 rfl (nL := 2) (Nat.le_of_ble_eq_true rfl) ?_
  intro X hX hC; subst hX
  show gG X d b _ F 0 0 0 [some (.ref a), some (.int i)] []
  obtain ⟨hA, hQ, h1, h2, h3, h4⟩ := id h
  refine g_iload_n hC dX4_cut_0 rfl ?_
  refine g_if_lt (tgt := 17) hC dX4_cut_1 (by decide) (fun c1 => ?_) (fun c1 => ?_)
  · exact g_vret hC ⟨fun z => absurd c1 z.1, fun _ => rfl, fun x hx h0 => rfl⟩ (by first | omega | (simp only [gR]; omega)) (by first | omega | (simp only [gR]; omega)) dX4_cut_17
  · obtain ⟨j, hj, rfl⟩ := nI_of c1
    refine g_iload_n hC dX4_cut_4 rfl ?_
    refine g_aload_n hC dX4_cut_5 rfl ?_
    refine g_get hC fl_X4_13 hA rfl dX4_cut_6 ?_
    refine g_icmp_ge (tgt := 17) hC dX4_cut_9 (by decide) (fun c2 => ?_) (fun c2 => ?_)
    · exact g_vret hC ⟨fun z => absurd z.2 (by rw [nI_clamp hj]; exact Nat.not_lt.mpr ((nI_leI (by omega) hj).mp c2)), fun _ => rfl, fun x hx h0 => rfl⟩ (by first | omega | (simp only [gR]; omega)) (by first | omega | (simp only [gR]; omega)) dX4_cut_17
    · have hlt : j < sz := Nat.not_le.mp (fun q => c2 (nI_le q hj))
      refine g_aload_n hC dX4_cut_12 rfl ?_
      refine g_iload_n hC dX4_cut_13 rfl ?_
      refine g_put hC fl_X4_13 hA rfl rfl (Nat.le_of_ble_eq_true rfl) dX4_cut_14 ?_
      refine g_vF (fun F3 hF3 => ?_)
      have f5 : F3 q = .inl (gI d, n, .inl f) := by rw [hF3, va_up_ne _ _ (gne hQ hA gk_ao)]; exact hQ
      have f4 : F3 a = .inr (4, [.int (nI mo), .ref q, .int (nI j)]) := by rw [hF3]; exact va_up_self _ _ _
      exact g_vret hC ⟨fun _ => by rw [nI_clamp hj]; exact ⟨f4, f5, by omega, h2, h3, h4⟩, fun z => absurd z (fun z => z.elim (nI_pos hj) (fun z => absurd ((nI_leI (by omega) hj).mp z) (by omega))), fun x hx h0 => by rw [hF3, va_up_ne _ _ hx]⟩ (by first | omega | (simp only [gR]; omega)) (by first | omega | (simp only [gR]; omega)) dX4_cut_17
theorem gmin2 {mo n sz : Nat} (h1 : mo ≤ 1000000) (h2 : n ≤ mo) (h3 : sz = n) : (if nI sz * 2 < nI mo then nI sz * 2 else nI mo) = nI (min mo (2 * n)) := by
  subst h3
  rw [show nI sz * 2 = nI (2 * sz) by rw [show (2 : Int32) = nI 2 from rfl, pk_mul, Nat.mul_comm]]
  by_cases h : 2 * sz < mo
  · rw [if_pos (nI_lt h (by omega)), Nat.min_eq_right (by omega)]
  · rw [if_neg (nI_nlt (by omega) (by omega)), Nat.min_eq_left (by omega)]
theorem gmax16 {x : Nat} (h1 : 16 ≤ x) (h2 : x ≤ 1000000) : (if (16 : Int32) < nI x then nI x else 16) = nI x := by
  rw [show (16 : Int32) = nI 16 from rfl]
  by_cases h : 16 < x
  · rw [if_pos (nI_lt (a := 16) h (by omega))]
  · rw [if_neg (nI_nlt (b := x) (a := 16) (by omega) (by omega)), show x = 16 by omega]
theorem dX4_add_0 : decode cX4_add 0 = .ok (.aload_n 0, 1) := by decide +kernel
theorem dX4_add_1 : decode cX4_add 1 = .ok (.getfield 13, 3) := by decide +kernel
theorem dX4_add_4 : decode cX4_add 4 = .ok (.aload_n 0, 1) := by decide +kernel
theorem dX4_add_5 : decode cX4_add 5 = .ok (.getfield 17, 3) := by decide +kernel
theorem dX4_add_8 : decode cX4_add 8 = .ok (.if_icmp .lt 4, 3) := by decide +kernel
theorem dX4_add_11 : decode cX4_add 11 = .ok (.return_, 1) := by decide +kernel
theorem dX4_add_12 : decode cX4_add 12 = .ok (.aload_n 0, 1) := by decide +kernel
theorem dX4_add_13 : decode cX4_add 13 = .ok (.getfield 13, 3) := by decide +kernel
theorem dX4_add_16 : decode cX4_add 16 = .ok (.aload_n 0, 1) := by decide +kernel
theorem dX4_add_17 : decode cX4_add 17 = .ok (.getfield 7, 3) := by decide +kernel
theorem dX4_add_20 : decode cX4_add 20 = .ok (.arraylength, 1) := by decide +kernel
theorem dX4_add_21 : decode cX4_add 21 = .ok (.if_icmp .lt 32, 3) := by decide +kernel
theorem dX4_add_24 : decode cX4_add 24 = .ok (.aload_n 0, 1) := by decide +kernel
theorem dX4_add_25 : decode cX4_add 25 = .ok (.aload_n 0, 1) := by decide +kernel
theorem dX4_add_26 : decode cX4_add 26 = .ok (.getfield 7, 3) := by decide +kernel
theorem dX4_add_29 : decode cX4_add 29 = .ok (.bipush 16, 2) := by decide +kernel
theorem dX4_add_31 : decode cX4_add 31 = .ok (.aload_n 0, 1) := by decide +kernel
theorem dX4_add_32 : decode cX4_add 32 = .ok (.getfield 17, 3) := by decide +kernel
theorem dX4_add_35 : decode cX4_add 35 = .ok (.aload_n 0, 1) := by decide +kernel
theorem dX4_add_36 : decode cX4_add 36 = .ok (.getfield 13, 3) := by decide +kernel
theorem dX4_add_39 : decode cX4_add 39 = .ok (.iconst 2, 1) := by decide +kernel
theorem dX4_add_40 : decode cX4_add 40 = .ok (.imul, 1) := by decide +kernel
theorem dX4_add_41 : decode cX4_add 41 = .ok (.invokestatic 20, 3) := by decide +kernel
theorem dX4_add_44 : decode cX4_add 44 = .ok (.invokestatic 26, 3) := by decide +kernel
theorem dX4_add_47 : decode cX4_add 47 = .ok (.invokestatic 29, 3) := by decide +kernel
theorem dX4_add_50 : decode cX4_add 50 = .ok (.putfield 7, 3) := by decide +kernel
theorem dX4_add_53 : decode cX4_add 53 = .ok (.aload_n 0, 1) := by decide +kernel
theorem dX4_add_54 : decode cX4_add 54 = .ok (.getfield 13, 3) := by decide +kernel
theorem dX4_add_57 : decode cX4_add 57 = .ok (.ifCond .lt 35, 3) := by decide +kernel
theorem dX4_add_60 : decode cX4_add 60 = .ok (.aload_n 0, 1) := by decide +kernel
theorem dX4_add_61 : decode cX4_add 61 = .ok (.getfield 13, 3) := by decide +kernel
theorem dX4_add_64 : decode cX4_add 64 = .ok (.aload_n 0, 1) := by decide +kernel
theorem dX4_add_65 : decode cX4_add 65 = .ok (.getfield 7, 3) := by decide +kernel
theorem dX4_add_68 : decode cX4_add 68 = .ok (.arraylength, 1) := by decide +kernel
theorem dX4_add_69 : decode cX4_add 69 = .ok (.if_icmp .ge 23, 3) := by decide +kernel
theorem dX4_add_72 : decode cX4_add 72 = .ok (.aload_n 0, 1) := by decide +kernel
theorem dX4_add_73 : decode cX4_add 73 = .ok (.getfield 7, 3) := by decide +kernel
theorem dX4_add_76 : decode cX4_add 76 = .ok (.aload_n 0, 1) := by decide +kernel
theorem dX4_add_77 : decode cX4_add 77 = .ok (.getfield 13, 3) := by decide +kernel
theorem dX4_add_80 : decode cX4_add 80 = .ok (.iload_n 1, 1) := by decide +kernel
theorem dX4_add_81 : decode cX4_add 81 = .ok (.iastore, 1) := by decide +kernel
theorem dX4_add_82 : decode cX4_add 82 = .ok (.aload_n 0, 1) := by decide +kernel
theorem dX4_add_83 : decode cX4_add 83 = .ok (.dup, 1) := by decide +kernel
theorem dX4_add_84 : decode cX4_add 84 = .ok (.getfield 13, 3) := by decide +kernel
theorem dX4_add_87 : decode cX4_add 87 = .ok (.iconst 1, 1) := by decide +kernel
theorem dX4_add_88 : decode cX4_add 88 = .ok (.iadd, 1) := by decide +kernel
theorem dX4_add_89 : decode cX4_add 89 = .ok (.putfield 13, 3) := by decide +kernel
theorem dX4_add_92 : decode cX4_add 92 = .ok (.return_, 1) := by decide +kernel
set_option maxHeartbeats 4000000 in
set_option maxRecDepth 100000 in
theorem c_Ints_add (l : Launch) (d : gD) (b : Nat) (F : gM) (a q mo n sz : Nat) (f : Nat → Int32) (h : gIn d F a q mo n sz f) (x : Int32) : gMv l d b yX4_add cX4_add 2 2 (gAc n sz) (gAs mo n sz) F [.ref a, .int x] (fun F' => (sz < mo → ∃ (q' : Nat) (f' : Nat → Int32), gIn d F' a q' mo (gAn mo n sz) (sz + 1) f' ∧ (q' = q ∨ F q' = g0) ∧ (∀ j, j < sz → f' j = f j) ∧ f' sz = x) ∧ (mo ≤ sz → F' = F) ∧ gFr F F' a q) := by
  refine gM_of2 rfl (nL := 2) (Nat.le_of_ble_eq_true rfl) ?_
  intro X hX hC; subst hX
  show gG X d b _ F 0 0 0 [some (.ref a), some (.int x)] []
  obtain ⟨hA, hQ, h1, h2, h3, h4⟩ := id h
  refine g_aload_n hC dX4_add_0 rfl ?_
  refine g_get hC fl_X4_13 hA rfl dX4_add_1 ?_
  refine g_aload_n hC dX4_add_4 rfl ?_
  refine g_get hC fl_X4_17 hA rfl dX4_add_5 ?_
  refine g_icmp_lt (tgt := 12) hC dX4_add_8 (by decide) (fun c1 => ?_) (fun c1 => ?_)
  · have hlt : sz < mo := (nI_ltI (by omega) (by omega)).mp c1
    refine g_aload_n hC dX4_add_12 rfl ?_
    refine g_get hC fl_X4_13 hA rfl dX4_add_13 ?_
    refine g_aload_n hC dX4_add_16 rfl ?_
    refine g_get hC fl_X4_7 hA rfl dX4_add_17 ?_
    refine g_alen hC 0 hQ rfl dX4_add_20 ?_
    refine g_icmp_lt (tgt := 53) hC dX4_add_21 (by decide) (fun c2 => ?_) (fun c2 => ?_)
    · have hsn : sz < n := (nI_ltI (by omega) (by omega)).mp c2
      have han : gAn mo n sz = n := if_pos hsn
      refine g_aload_n hC dX4_add_53 rfl ?_
      refine g_get hC fl_X4_13 hA rfl dX4_add_54 ?_
      refine g_if_lt (tgt := 92) hC dX4_add_57 (by decide) (fun c3 => ?_) (fun c3 => ?_)
      · exact absurd c3 (nI_pos (by omega))
      · refine g_aload_n hC dX4_add_60 rfl ?_
        refine g_get hC fl_X4_13 hA rfl dX4_add_61 ?_
        refine g_aload_n hC dX4_add_64 rfl ?_
        refine g_get hC fl_X4_7 hA rfl dX4_add_65 ?_
        refine g_alen hC 0 hQ rfl dX4_add_68 ?_
        refine g_icmp_ge (tgt := 92) hC dX4_add_69 (by decide) (fun c4 => ?_) (fun c4 => ?_)
        · exact absurd ((nI_leI (by omega) (by omega)).mp c4) (by omega)
        · refine g_aload_n hC dX4_add_72 rfl ?_
          refine g_get hC fl_X4_7 hA rfl dX4_add_73 ?_
          refine g_aload_n hC dX4_add_76 rfl ?_
          refine g_get hC fl_X4_13 hA rfl dX4_add_77 ?_
          refine g_iload_n hC dX4_add_80 rfl ?_
          refine g_iast hC hQ (vp_in_nI (by omega) (by omega)) dX4_add_81 ?_
          refine g_vF (fun F5 hF5 => ?_)
          have f7 : F5 a = .inr (4, [.int (nI mo), .ref q, .int (nI sz)]) := by rw [hF5, va_up_ne _ _ (gne hA hQ gk_oa)]; exact hA
          have f6 : F5 q = .inl (gI d, n, .inl (upd f sz x)) := by rw [hF5]; exact by rw [va_up_self, nI_clamp (by omega)]
          refine g_aload_n hC dX4_add_82 rfl ?_
          refine g_dup hC dX4_add_83 rfl ?_
          refine g_get hC fl_X4_13 f7 rfl dX4_add_84 ?_
          refine g_iconst (v := 1) hC dX4_add_87 rfl ?_
          refine g_iadd hC dX4_add_88 ?_
          refine g_vi (fun x8 ex8 => ?_)
          have zx8 : x8 = nI (sz + 1) := by rw [ex8]; exact nI_1 sz
          subst zx8
          refine g_put hC fl_X4_13 f7 rfl rfl (Nat.le_of_ble_eq_true rfl) dX4_add_89 ?_
          refine g_vF (fun F9 hF9 => ?_)
          have f11 : F9 q = .inl (gI d, n, .inl (upd f sz x)) := by rw [hF9, va_up_ne _ _ (gne f6 f7 gk_ao)]; exact f6
          have f10 : F9 a = .inr (4, [.int (nI mo), .ref q, .int (nI (sz + 1))]) := by rw [hF9]; exact va_up_self _ _ _
          exact g_vret hC ⟨fun _ => ⟨q, upd f sz x, ⟨f10, by rw [han]; exact f11, by rw [han]; omega, by rw [han]; omega, by rw [han]; omega, h4⟩, Or.inl rfl, fun j hj => pk_un (Nat.ne_of_lt hj), pk_us⟩, fun z => absurd hlt (by omega), fun x hx hxq h0 => by rw [hF9, va_up_ne _ _ hx, hF5, va_up_ne _ _ hxq]⟩ (by first | omega | (simp only [gR]; omega)) (by first | omega | (simp only [gR]; omega)) dX4_add_92
    · have hsn : ¬ sz < n := fun z => c2 (nI_lt z (by omega))
      obtain ⟨N, hNd⟩ : ∃ N : Nat, N = min mo (2 * n) := ⟨_, rfl⟩
      have hN1 : n < N := by rw [hNd]; exact Nat.lt_min.mpr ⟨by omega, by omega⟩
      have hN2 : N ≤ mo := by rw [hNd]; exact Nat.min_le_left _ _
      have hac : gAc n sz = 1 := if_neg hsn
      have has : gAs mo n sz = N := by rw [hNd]; exact if_neg hsn
      have han : gAn mo n sz = N := by rw [hNd]; exact if_neg hsn
      refine g_aload_n hC dX4_add_24 rfl ?_
      refine g_aload_n hC dX4_add_25 rfl ?_
      refine g_get hC fl_X4_7 hA rfl dX4_add_26 ?_
      refine g_bipush (v := 16) hC dX4_add_29 rfl ?_
      refine g_aload_n hC dX4_add_31 rfl ?_
      refine g_get hC fl_X4_17 hA rfl dX4_add_32 ?_
      refine g_aload_n hC dX4_add_35 rfl ?_
      refine g_get hC fl_X4_13 hA rfl dX4_add_36 ?_
      refine g_iconst (v := 2) hC dX4_add_39 rfl ?_
      refine g_imul hC dX4_add_40 ?_
      refine g_vi (fun x12 ex12 => ?_)
      refine g_min hC kw_445 rfl ⟨Nat.le_of_ble_eq_true rfl, Nat.le_of_ble_eq_true rfl⟩ (Nat.le_of_ble_eq_true rfl) (by first | omega | (simp only [gR]; omega)) (by first | omega | (simp only [gR]; omega)) dX4_add_41 ?_
      refine g_vi (fun x13 ex13 => ?_)
      have zx13 : x13 = nI N := by rw [ex13, ex12, hNd]; exact gmin2 (by omega) (by omega) (by omega)
      subst zx13
      refine g_max hC kw_448 rfl ⟨Nat.le_of_ble_eq_true rfl, Nat.le_of_ble_eq_true rfl⟩ (Nat.le_of_ble_eq_true rfl) (by first | omega | (simp only [gR]; omega)) (by first | omega | (simp only [gR]; omega)) dX4_add_44 ?_
      refine g_vi (fun x14 ex14 => ?_)
      have zx14 : x14 = nI N := by rw [ex14]; exact gmax16 (by omega) (by omega)
      subst zx14
      refine g_callSq (As := [.ref q, .int (nI N)]) hC (c_copyOf X.la d b F q n N f hQ (by omega) (by omega)) cl_X4_29 rfl rfl (Nat.le_of_ble_eq_true rfl) (gFit_of (Nat.le_of_ble_eq_true rfl) (Nat.le_of_ble_eq_true rfl) (by first | omega | (simp only [gR]; omega)) (by first | omega | (simp only [gR]; omega))) dX4_add_47 (fun r17 F15 p16 => ?_)
      obtain ⟨q2, rfl, e_q2, hG⟩ := p16
      have f18 : F15 a = .inr (4, [.int (nI mo), .ref q, .int (nI sz)]) := by rw [hG, va_up_ne _ _ (gne hA e_q2 g0_o)]; exact hA
      have f19 : F15 q = .inl (gI d, n, .inl f) := by rw [hG, va_up_ne _ _ (gne hQ e_q2 g0_a)]; exact hQ
      have f20 : F15 q2 = .inl (gI d, N, .inl (va_cpy f (fun _ => 0) 0 0 n)) := by rw [hG]; exact va_up_self _ _ _
      refine g_put hC fl_X4_7 f18 rfl rfl (Nat.le_of_ble_eq_true rfl) dX4_add_50 ?_
      refine g_vF (fun F21 hF21 => ?_)
      have f23 : F21 q = .inl (gI d, n, .inl f) := by rw [hF21, va_up_ne _ _ (gne f19 f18 gk_ao)]; exact f19
      have f24 : F21 q2 = .inl (gI d, N, .inl (va_cpy f (fun _ => 0) 0 0 n)) := by rw [hF21, va_up_ne _ _ (gne f20 f18 gk_ao)]; exact f20
      have f22 : F21 a = .inr (4, [.int (nI mo), .ref q2, .int (nI sz)]) := by rw [hF21]; exact va_up_self _ _ _
      refine g_aload_n hC dX4_add_53 rfl ?_
      refine g_get hC fl_X4_13 f22 rfl dX4_add_54 ?_
      refine g_if_lt (tgt := 92) hC dX4_add_57 (by decide) (fun c25 => ?_) (fun c25 => ?_)
      · exact absurd c25 (nI_pos (by omega))
      · refine g_aload_n hC dX4_add_60 rfl ?_
        refine g_get hC fl_X4_13 f22 rfl dX4_add_61 ?_
        refine g_aload_n hC dX4_add_64 rfl ?_
        refine g_get hC fl_X4_7 f22 rfl dX4_add_65 ?_
        refine g_alen hC 0 f24 rfl dX4_add_68 ?_
        refine g_icmp_ge (tgt := 92) hC dX4_add_69 (by decide) (fun c26 => ?_) (fun c26 => ?_)
        · exact absurd ((nI_leI (by omega) (by omega)).mp c26) (by omega)
        · refine g_aload_n hC dX4_add_72 rfl ?_
          refine g_get hC fl_X4_7 f22 rfl dX4_add_73 ?_
          refine g_aload_n hC dX4_add_76 rfl ?_
          refine g_get hC fl_X4_13 f22 rfl dX4_add_77 ?_
          refine g_iload_n hC dX4_add_80 rfl ?_
          refine g_iast hC f24 (vp_in_nI (by omega) (by omega)) dX4_add_81 ?_
          refine g_vF (fun F27 hF27 => ?_)
          have f29 : F27 q = .inl (gI d, n, .inl f) := by rw [hF27, va_up_ne _ _ (gne hQ e_q2 g0_a)]; exact f23
          have f30 : F27 a = .inr (4, [.int (nI mo), .ref q2, .int (nI sz)]) := by rw [hF27, va_up_ne _ _ (gne f22 f24 gk_oa)]; exact f22
          have f28 : F27 q2 = .inl (gI d, N, .inl (upd (va_cpy f (fun _ => 0) 0 0 n) sz x)) := by rw [hF27]; exact by rw [va_up_self, nI_clamp (by omega)]
          refine g_aload_n hC dX4_add_82 rfl ?_
          refine g_dup hC dX4_add_83 rfl ?_
          refine g_get hC fl_X4_13 f30 rfl dX4_add_84 ?_
          refine g_iconst (v := 1) hC dX4_add_87 rfl ?_
          refine g_iadd hC dX4_add_88 ?_
          refine g_vi (fun x31 ex31 => ?_)
          have zx31 : x31 = nI (sz + 1) := by rw [ex31]; exact nI_1 sz
          subst zx31
          refine g_put hC fl_X4_13 f30 rfl rfl (Nat.le_of_ble_eq_true rfl) dX4_add_89 ?_
          refine g_vF (fun F32 hF32 => ?_)
          have f34 : F32 q = .inl (gI d, n, .inl f) := by rw [hF32, va_up_ne _ _ (gne f29 f30 gk_ao)]; exact f29
          have f35 : F32 q2 = .inl (gI d, N, .inl (upd (va_cpy f (fun _ => 0) 0 0 n) sz x)) := by rw [hF32, va_up_ne _ _ (gne f28 f30 gk_ao)]; exact f28
          have f33 : F32 a = .inr (4, [.int (nI mo), .ref q2, .int (nI (sz + 1))]) := by rw [hF32]; exact va_up_self _ _ _
          exact g_vret hC ⟨fun _ => ⟨q2, upd (va_cpy f (fun _ => 0) 0 0 n) sz x, ⟨f33, by rw [han]; exact f35, by rw [han]; omega, by rw [han]; omega, by rw [han]; omega, h4⟩, Or.inr e_q2, fun j hj => (pk_un (Nat.ne_of_lt hj)).trans ((pk_cpy_in (Nat.zero_le j) (by omega)).trans (by simp)), pk_us⟩, fun z => absurd hlt (by omega), fun x hx hxq h0 => by rw [hF32, va_up_ne _ _ hx, hF27, va_up_ne _ _ (fun z => h0 (by rw [z]; exact e_q2)), hF21, va_up_ne _ _ hx, hG, va_up_ne _ _ (fun z => h0 (by rw [z]; exact e_q2))]⟩ (by first | omega | (simp only [gR]; omega)) (by first | omega | (simp only [gR]; omega)) dX4_add_92
  · exact g_vret hC ⟨fun z => absurd (nI_lt z (by omega)) c1, fun _ => rfl, fun x _ _ _ => rfl⟩ (by first | omega | (simp only [gR]; omega)) (by first | omega | (simp only [gR]; omega)) dX4_add_11
end
section
/-! THE CLASS'S STATE. Y: where its objects (gO'), its rows of ints (gA') and the two rows of rows (gZ') lie, and which cells are others' (gPr); S: where the rows' cells lie (sQ; 44: positions, 45: the machine's store), the scalars (sV), the cells' number (sN), how many ints are there (sZ), the ints (sF). -/
abbrev gYt : Type := (Nat → Nat) × (Nat → Nat) × (Nat → Nat) × (Nat → Prop)
abbrev gO' (Y : gYt) : Nat → Nat := Y.1
abbrev gA' (Y : gYt) : Nat → Nat := Y.2.1
abbrev gZ' (Y : gYt) : Nat → Nat := Y.2.2.1
abbrev gPr (Y : gYt) : Nat → Prop := Y.2.2.2
abbrev gSt : Type := (Nat → Nat) × (Nat → Int32) × (Nat → Nat) × (Nat → Nat) × (Nat → Nat → Int32)
abbrev sQ (S : gSt) : Nat → Nat := S.1
abbrev sV (S : gSt) : Nat → Int32 := S.2.1
abbrev sN (S : gSt) : Nat → Nat := S.2.2.1
abbrev sZ (S : gSt) : Nat → Nat := S.2.2.2.1
abbrev sF (S : gSt) : Nat → Nat → Int32 := S.2.2.2.2
def uV (S : gSt) (k : Nat) (x : Int32) : gSt := (S.1, va_up S.2.1 k x, S.2.2)
def uR (S : gSt) (j q n z : Nat) (f : Nat → Int32) : gSt := (va_up S.1 j q, S.2.1, va_up S.2.2.1 j n, va_up S.2.2.2.1 j z, va_up S.2.2.2.2 j f)
def gci : Nat → Nat
  | 0 => 11
  | 1 => 7
  | 2 => 10
  | 3 => 8
  | 4 => 6
  | 5 => 1
  | 6 => 0
  | 7 => 5
  | 8 => 9
  | 9 => 2
  | _ => 3
def gfs (Y : gYt) (S : gSt) : Nat → List Value
  | 0 => [.ref (gA' Y 0), .ref (gO' Y 1), .ref (gO' Y 2), .ref (gO' Y 3), .ref (gO' Y 4), .ref (gO' Y 5), .ref (gO' Y 6), .ref (gO' Y 7), .int (sV S 0), .int (sV S 1)]
  | 1 => [.ref (gA' Y 1), .ref (gA' Y 2), .ref (gA' Y 3), .ref (gA' Y 4), .ref (gA' Y 5), .ref (gA' Y 6), .int (sV S 2), .int (sV S 3), .int (sV S 4), .int (sV S 5), .int (sV S 6)]
  | 2 => [.ref (gA' Y 7), .ref (gA' Y 8), .ref (gA' Y 9), .ref (gA' Y 10), .ref (gA' Y 11), .ref (gA' Y 12), .ref (gA' Y 13)]
  | 3 => [.ref (gA' Y 0), .ref (gA' Y 14), .ref (gA' Y 15), .ref (gA' Y 16), .ref (gA' Y 17), .ref (gA' Y 18), .ref (gA' Y 19), .ref (gA' Y 20), .int (sV S 7), .int (sV S 8), .int (sV S 9)]
  | 4 => [.ref (gA' Y 14), .ref (gA' Y 15), .ref (gA' Y 16), .ref (gA' Y 17), .ref (gO' Y 2), .ref (gO' Y 1), .ref (gA' Y 21), .ref (gA' Y 22), .ref (gA' Y 23), .int (sV S 10), .int (sV S 11), .int (sV S 12)]
  | 5 => [.ref (gO' Y 2), .ref (gO' Y 1), .ref (gO' Y 8), .ref (gO' Y 9), .ref (gA' Y 24), .ref (gA' Y 25), .ref (gA' Y 26), .int (sV S 13), .int (sV S 14), .int (sV S 15), .int (sV S 16), .int (sV S 17), .int (sV S 18), .int (sV S 19), .int (sV S 20), .int (sV S 21), .int (sV S 22), .int (sV S 23), .int (sV S 24)]
  | 6 => [.ref (gZ' Y 0), .ref (sQ S 44), .ref (gZ' Y 1), .int (sV S 25), .int (sV S 26)]
  | 7 => [.ref (gO' Y 1), .ref (gO' Y 6), .ref (gO' Y 10), .ref (gA' Y 42), .ref (gA' Y 43), .ref (sQ S 45), .int (sV S 27), .int (sV S 28), .int (sV S 29), .int (sV S 30), .int (sV S 31), .int (sV S 32), .int (sV S 33), .int (sV S 34), .int (sV S 35), .int (sV S 36)]
  | 8 => [.ref (gO' Y 1), .ref (gA' Y 27), .ref (gA' Y 28), .ref (gA' Y 29), .ref (gA' Y 30), .ref (gA' Y 31), .ref (gA' Y 32), .int (sV S 37)]
  | 9 => [.ref (gO' Y 2), .ref (gO' Y 1), .ref (gO' Y 8), .ref (gA' Y 33), .int (sV S 38), .int (sV S 39), .int (sV S 40)]
  | _ => [.ref (gA' Y 40), .ref (gA' Y 41)]
def gmo : Nat → Nat
  | 0 => 6000
  | 34 => 6000
  | 35 => 6000
  | 36 => 6000
  | 37 => 6000
  | 38 => 4096
  | 39 => 4096
  | 40 => 100
  | 41 => 100
  | _ => 1000000
def gbo : List Nat := [6, 9, 24, 34, 38]
theorem gci_inj : ∀ i, i < 11 → ∀ k, k < 11 → gci i = gci k → i = k := by decide
theorem gfs_Q {Y : gYt} {S S' : gSt} (h4 : sQ S' 44 = sQ S 44) (h5 : sQ S' 45 = sQ S 45) (hv : sV S' = sV S) : ∀ i, i < 11 → gfs Y S' i = gfs Y S i := by
  intro i hi
  match i, hi with
  | 0, _ => simp only [gfs, h4, h5, hv]
  | 1, _ => simp only [gfs, h4, h5, hv]
  | 2, _ => simp only [gfs, h4, h5, hv]
  | 3, _ => simp only [gfs, h4, h5, hv]
  | 4, _ => simp only [gfs, h4, h5, hv]
  | 5, _ => simp only [gfs, h4, h5, hv]
  | 6, _ => simp only [gfs, h4, h5, hv]
  | 7, _ => simp only [gfs, h4, h5, hv]
  | 8, _ => simp only [gfs, h4, h5, hv]
  | 9, _ => simp only [gfs, h4, h5, hv]
  | 10, _ => simp only [gfs, h4, h5, hv]
def gWT (d : gD) (Y : gYt) (F : gM) (S : gSt) : Prop :=
  (∀ i, i < 11 → F (gO' Y i) = .inr (gci i, gfs Y S i)) ∧
  (∀ j, j < 44 → gIn d F (gA' Y j) (sQ S j) (gmo j) (sN S j) (sZ S j) (sF S j)) ∧
  (F (sQ S 44) = .inl (gI d, 4, .inl (sF S 44)) ∧ F (sQ S 45) = .inl (gI d, sN S 45, .inl (sF S 45)) ∧ 4096 ≤ sN S 45 ∧ sN S 45 ≤ 65536) ∧
  ((∃ f : Nat → Option Nat, F (gZ' Y 0) = .inl (gO d, 4, .inr (.inr (.inr (.inr f)))) ∧ ∀ i, i < 4 → f i = some (gA' Y (34 + i))) ∧ ∃ f : Nat → Option Nat, F (gZ' Y 1) = .inl (gO d, 2, .inr (.inr (.inr (.inr f)))) ∧ ∀ i, i < 2 → f i = some (gA' Y (38 + i))) ∧
  ((∀ i j, i < 44 → j < 44 → gA' Y i = gA' Y j → i = j) ∧ ∀ i j, i < 46 → j < 46 → sQ S i = sQ S j → i = j) ∧
  (∀ k ∈ gbo, sV S k = 0 ∨ sV S k = 1) ∧
  ∀ x, gPr Y x → F x ≠ g0 ∧ (∀ i, i < 11 → x ≠ gO' Y i) ∧ (∀ j, j < 44 → x ≠ gA' Y j) ∧ ∀ j, j < 46 → x ≠ sQ S j
/-- others' cells stay -/
def gKp (Y : gYt) (F F' : gM) : Prop := ∀ x, gPr Y x → F' x = F x
theorem gKp.rf {Y : gYt} {F : gM} : gKp Y F F := fun _ _ => rfl
theorem gKp.tr {Y : gYt} {F F1 F2 : gM} (h : gKp Y F F1) (h2 : gKp Y F1 F2) : gKp Y F F2 := fun x hx => (h2 x hx).trans (h x hx)
/-- two states alike but for rows js and scalars ks -/
def gSm (S S' : gSt) (js ks : List Nat) : Prop := (∀ j, j ∉ js → sQ S' j = sQ S j ∧ sN S' j = sN S j ∧ sZ S' j = sZ S j ∧ sF S' j = sF S j) ∧ ∀ k, k ∉ ks → sV S' k = sV S k
theorem gSm.rf {S : gSt} {js ks : List Nat} : gSm S S js ks := ⟨fun _ _ => ⟨rfl, rfl, rfl, rfl⟩, fun _ _ => rfl⟩
theorem gsub {a b : List Nat} (h : a.all (fun z => b.contains z) = true) : a ⊆ b := fun z hz => by simpa using List.all_eq_true.mp h z hz
theorem gSm.tr {S S1 S2 : gSt} {a b a' b' : List Nat} (h : gSm S S1 a b) (h2 : gSm S1 S2 a' b') (a3 b3 : List Nat) (ha0 : (a ++ a').all (fun z => a3.contains z) = true) (hb0 : (b ++ b').all (fun z => b3.contains z) = true) : gSm S S2 a3 b3 := by
  have ha := gsub ha0
  have hb := gsub hb0
  refine ⟨fun j hj => ?_, fun k hk => ?_⟩
  · obtain ⟨e1, e2, e3, e4⟩ := h.1 j (fun z => hj (ha (List.mem_append_left _ z)))
    obtain ⟨g1, g2, g3, g4⟩ := h2.1 j (fun z => hj (ha (List.mem_append_right _ z)))
    exact ⟨g1.trans e1, g2.trans e2, g3.trans e3, g4.trans e4⟩
  · exact (h2.2 k (fun z => hk (hb (List.mem_append_right _ z)))).trans (h.2 k (fun z => hk (hb (List.mem_append_left _ z))))
theorem gSm.wk {S S1 : gSt} {a b : List Nat} (h : gSm S S1 a b) (a3 b3 : List Nat) (ha : a.all (fun z => a3.contains z) = true) (hb : b.all (fun z => b3.contains z) = true) : gSm S S1 a3 b3 := ⟨fun j hj => h.1 j (fun z => hj (gsub ha z)), fun k hk => h.2 k (fun z => hk (gsub hb z))⟩
theorem gSm.z {S S1 : gSt} {a b : List Nat} (h : gSm S S1 a b) (j : Nat) (hj : j ∉ a) : sZ S1 j = sZ S j := (h.1 j hj).2.2.1
theorem gSm.n {S S1 : gSt} {a b : List Nat} (h : gSm S S1 a b) (j : Nat) (hj : j ∉ a) : sN S1 j = sN S j := (h.1 j hj).2.1
theorem gSm.f {S S1 : gSt} {a b : List Nat} (h : gSm S S1 a b) (j : Nat) (hj : j ∉ a) : sF S1 j = sF S j := (h.1 j hj).2.2.2
theorem gSm.v {S S1 : gSt} {a b : List Nat} (h : gSm S S1 a b) (k : Nat) (hk : k ∉ b) : sV S1 k = sV S k := h.2 k hk
theorem gSm_uV {S : gSt} {k : Nat} {x : Int32} : gSm S (uV S k x) [] [k] := ⟨fun _ _ => ⟨rfl, rfl, rfl, rfl⟩, fun j hj => va_up_ne _ _ (fun z => hj (by rw [z]; exact List.mem_singleton.mpr rfl))⟩
theorem uV_self {S : gSt} {k : Nat} {x : Int32} : sV (uV S k x) k = x := by
  show va_up S.2.1 k x k = x
  rw [va_up_self]
theorem gSm_uR {S : gSt} {j q n z : Nat} {f : Nat → Int32} : gSm S (uR S j q n z f) [j] [] := ⟨fun i hi => by
  have h : i ≠ j := fun e => hi (by rw [e]; exact List.mem_singleton.mpr rfl)
  exact ⟨va_up_ne _ _ h, va_up_ne _ _ h, va_up_ne _ _ h, va_up_ne _ _ h⟩, fun _ _ => rfl⟩
theorem gk_rl {c1 c2 n1 n2 : Nat} {r : (Nat → Int64) ⊕ (Nat → UInt32) ⊕ (Nat → UInt64) ⊕ (Nat → Option Nat)} {f : Nat → Int32} : (.inl (c1, n1, .inr r) : va_E) ≠ .inl (c2, n2, .inl f) := fun z => by
  have h := congrArg (fun e : va_E => match e with | .inl (_, _, .inl _) => true | _ => false) z
  cases h
section WT
variable {d : gD} {Y : gYt} {F F' : gM} {S : gSt}
theorem gWT.o (h : gWT d Y F S) (i : Nat) (hi : i < 11) : F (gO' Y i) = .inr (gci i, gfs Y S i) := h.1 i hi
theorem gWT.r (h : gWT d Y F S) (j : Nat) (hj : j < 44) : gIn d F (gA' Y j) (sQ S j) (gmo j) (sN S j) (sZ S j) (sF S j) := h.2.1 j hj
theorem gWT.p (h : gWT d Y F S) : F (sQ S 44) = .inl (gI d, 4, .inl (sF S 44)) := h.2.2.1.1
theorem gWT.c (h : gWT d Y F S) : F (sQ S 45) = .inl (gI d, sN S 45, .inl (sF S 45)) := h.2.2.1.2.1
theorem gWT.bo (h : gWT d Y F S) (k : Nat) (hk : k ∈ gbo) : sV S k = 0 ∨ sV S k = 1 := h.2.2.2.2.2.1 k hk
theorem gci4 : ∀ i, i < 11 → (gci i == 4) = false := by decide
theorem gWT.a_o (h : gWT d Y F S) {i j : Nat} (hi : i < 11) (hj : j < 44) : gA' Y j ≠ gO' Y i := gne (h.r j hj).1 (h.o i hi) (fun z => by
  have h2 := gci4 i hi
  have h1 : 4 = gci i := congrArg (fun e : va_E => match e with | .inr q => q.1 | .inl _ => 0) z
  rw [← h1] at h2
  cases h2)
theorem gWT.o_n (h : gWT d Y F S) {i : Nat} (hi : i < 11) : F (gO' Y i) ≠ g0 := by
  rw [h.o i hi]
  intro z
  have h1 : gfs Y S i = [] := congrArg (fun e : va_E => match e with | .inr q => q.2 | .inl _ => []) z
  match i, hi, h1 with
  | 0, _, h1 => cases h1
  | 1, _, h1 => cases h1
  | 2, _, h1 => cases h1
  | 3, _, h1 => cases h1
  | 4, _, h1 => cases h1
  | 5, _, h1 => cases h1
  | 6, _, h1 => cases h1
  | 7, _, h1 => cases h1
  | 8, _, h1 => cases h1
  | 9, _, h1 => cases h1
  | 10, _, h1 => cases h1
theorem gWT.q_i (h : gWT d Y F S) {j : Nat} (hj : j < 46) : ∃ n f, F (sQ S j) = .inl (gI d, n, .inl f) := by
  rcases (show j < 44 ∨ j = 44 ∨ j = 45 by omega) with q | rfl | rfl
  · exact ⟨_, _, (h.r j q).2.1⟩
  · exact ⟨_, _, h.p⟩
  · exact ⟨_, _, h.c⟩
/-- a scalar is put -/
theorem gWT.put (h : gWT d Y F S) {i k : Nat} {x : Int32} (hi : i < 11) {fs : List Value} (hF : F' = va_up F (gO' Y i) (.inr (gci i, fs))) (hfs : fs = gfs Y (uV S k x) i) (hsame : ∀ i', i' < 11 → i' ≠ i → gfs Y (uV S k x) i' = gfs Y S i') (hb : k ∈ gbo → x = 0 ∨ x = 1) : gWT d Y F' (uV S k x) ∧ gKp Y F F' := by
  have hoo : ∀ i', i' < 11 → i' ≠ i → gO' Y i' ≠ gO' Y i := fun i' h1 h2 => gne (h.o i' h1) (h.o i hi) (fun z => by
    have h3 : gci i' = gci i := congrArg (fun e : va_E => match e with | .inr q => q.1 | .inl _ => 0) z
    exact h2 (gci_inj i' h1 i hi h3))
  have hao : ∀ q e, F q = .inl e → q ≠ gO' Y i := fun q e hq => gne hq (h.o i hi) gk_ao
  refine ⟨⟨fun i' h1 => ?_, fun j hj => ?_, ?_, ?_, h.2.2.2.2.1, fun k' hk' => ?_, fun q hq => ?_⟩, fun q hq => ?_⟩
  · by_cases e : i' = i
    · subst e
      rw [hF, va_up_self, hfs]
    · rw [hF, va_up_ne _ _ (hoo i' h1 e), hsame i' h1 e]
      exact h.o i' h1
  · obtain ⟨h1, h2, h3⟩ := h.r j hj
    exact ⟨by rw [hF]; exact (va_up_ne _ _ (h.a_o hi hj)).trans h1, by rw [hF]; exact (va_up_ne _ _ (hao _ _ h2)).trans h2, h3⟩
  · obtain ⟨h1, h2, h3⟩ := h.2.2.1
    exact ⟨by rw [hF]; exact (va_up_ne _ _ (hao _ _ h1)).trans h1, by rw [hF]; exact (va_up_ne _ _ (hao _ _ h2)).trans h2, h3⟩
  · obtain ⟨⟨f1, h1, h2⟩, f2, h3, h4⟩ := h.2.2.2.1
    exact ⟨⟨f1, by rw [hF, va_up_ne _ _ (hao _ _ h1)]; exact h1, h2⟩, f2, by rw [hF, va_up_ne _ _ (hao _ _ h3)]; exact h3, h4⟩
  · show va_up (sV S) k x k' = 0 ∨ va_up (sV S) k x k' = 1
    by_cases e : k' = k
    · subst e
      rw [va_up_self]
      exact hb hk'
    · rw [va_up_ne _ _ e]
      exact h.bo k' hk'
  · obtain ⟨h1, h2, h3, h4⟩ := h.2.2.2.2.2.2 q hq
    exact ⟨by rw [hF, va_up_ne _ _ (h2 i hi)]; exact h1, h2, h3, h4⟩
  · rw [hF, va_up_ne _ _ ((h.2.2.2.2.2.2 q hq).2.1 i hi)]
/-- a row moves -/
theorem gWT.row (h : gWT d Y F S) {j q n z : Nat} {f : Nat → Int32} (hj : j < 44) (hr : gIn d F' (gA' Y j) q (gmo j) n z f) (hq : q = sQ S j ∨ F q = g0) (hf : gFr F F' (gA' Y j) (sQ S j)) : gWT d Y F' (uR S j q n z f) ∧ gKp Y F F' := by
  have hqk : ∀ k, k < 46 → k ≠ j → sQ S k ≠ sQ S j := fun k hk hn e => hn (h.2.2.2.2.1.2 k j hk (by omega) e)
  have hqa : ∀ k, k < 46 → sQ S k ≠ gA' Y j := fun k hk => by
    obtain ⟨n, f, e⟩ := h.q_i hk
    exact gne e (h.r j hj).1 gk_ao
  have kq : ∀ k, k < 46 → k ≠ j → F' (sQ S k) = F (sQ S k) := fun k hk hn => hf _ (hqa k hk) (hqk k hk hn) (by
    obtain ⟨n, f, e⟩ := h.q_i hk
    rw [e]; exact g0_a)
  have kz : ∀ a c v r, F a = .inl (c, v, .inr r) → F' a = F a := fun a c v r e => hf a (gne e (h.r j hj).1 gk_ao) (gne e (h.r j hj).2.1 (fun z => by cases z)) (by rw [e]; exact g0_a)
  have hnew : ∀ k, k < 46 → k ≠ j → sQ S k ≠ q := fun k hk hn e => by
    rcases hq with rfl | g
    · exact hqk k hk hn e
    · obtain ⟨n, f, e2⟩ := h.q_i hk
      rw [e, g] at e2
      exact g0_a e2.symm
  have up : ∀ k, k ≠ j → (sQ (uR S j q n z f) k = sQ S k ∧ sN (uR S j q n z f) k = sN S k ∧ sZ (uR S j q n z f) k = sZ S k ∧ sF (uR S j q n z f) k = sF S k) := fun k hk => ⟨va_up_ne _ _ hk, va_up_ne _ _ hk, va_up_ne _ _ hk, va_up_ne _ _ hk⟩
  have uj : sQ (uR S j q n z f) j = q ∧ sN (uR S j q n z f) j = n ∧ sZ (uR S j q n z f) j = z ∧ sF (uR S j q n z f) j = f := ⟨va_up_self _ _ _, va_up_self _ _ _, va_up_self _ _ _, va_up_self _ _ _⟩
  have e44 : ∀ i, i < 11 → gfs Y (uR S j q n z f) i = gfs Y S i := fun i hi => gfs_Q (up 44 (by omega)).1 (up 45 (by omega)).1 rfl i hi
  refine ⟨⟨fun i hi => ?_, fun k hk => ?_, ?_, ?_, ⟨h.2.2.2.2.1.1, fun i k hi hk e => ?_⟩, h.2.2.2.2.2.1, fun x hx => ?_⟩, fun x hx => ?_⟩
  · rw [hf _ (Ne.symm (h.a_o hi hj)) (fun e => by
      have h1 := h.o i hi
      rw [e, (h.r j hj).2.1] at h1
      cases h1) (h.o_n hi), e44 i hi]
    exact h.o i hi
  · by_cases e : k = j
    · subst e
      rw [uj.1, uj.2.1, uj.2.2.1, uj.2.2.2]
      exact hr
    · obtain ⟨u1, u2, u3, u4⟩ := up k e
      rw [u1, u2, u3, u4]
      obtain ⟨h1, h2, h3⟩ := h.r k hk
      exact ⟨by rw [hf _ (fun z => e (h.2.2.2.2.1.1 k j hk hj z)) (gne h1 (h.r j hj).2.1 gk_oa) (by rw [h1]; exact g0_o)]; exact h1, by rw [kq k (by omega) e]; exact h2, h3⟩
  · obtain ⟨h1, h2, h3⟩ := h.2.2.1
    obtain ⟨u1, u2, u3, u4⟩ := up 44 (by omega)
    obtain ⟨w1, w2, w3, w4⟩ := up 45 (by omega)
    rw [u1, u4, w1, w2, w4]
    exact ⟨(kq 44 (by omega) (by omega)).trans h1, (kq 45 (by omega) (by omega)).trans h2, h3⟩
  · obtain ⟨⟨f1, h1, h2⟩, f2, h3, h4⟩ := h.2.2.2.1
    exact ⟨⟨f1, (kz _ _ _ _ h1).trans h1, h2⟩, f2, (kz _ _ _ _ h3).trans h3, h4⟩
  · by_cases ei : i = j
    · by_cases ek : k = j
      · rw [ei, ek]
      · subst ei
        rw [uj.1, (up k ek).1] at e
        exact absurd e.symm (hnew k hk ek)
    · by_cases ek : k = j
      · subst ek
        rw [uj.1, (up i ei).1] at e
        exact absurd e (hnew i hi ei)
      · rw [(up i ei).1, (up k ek).1] at e
        exact h.2.2.2.2.1.2 i k hi hk e
  · obtain ⟨h1, h2, h3, h4⟩ := h.2.2.2.2.2.2 x hx
    refine ⟨by rw [hf x (h3 j hj) (h4 j (by omega)) h1]; exact h1, h2, h3, fun k hk => ?_⟩
    by_cases e : k = j
    · subst e
      rw [uj.1]
      rcases hq with rfl | g
      · exact h4 k hk
      · exact fun z => h1 (by rw [z]; exact g)
    · rw [(up k e).1]
      exact h4 k hk
  · obtain ⟨h1, h2, h3, h4⟩ := h.2.2.2.2.2.2 x hx
    exact hf x (h3 j hj) (h4 j (by omega)) h1
/-- positions are put -/
theorem gWT.arr44 (h : gWT d Y F S) {f : Nat → Int32} (hF : F' = va_up F (sQ S 44) (.inl (gI d, 4, .inl f))) : gWT d Y F' (S.1, S.2.1, S.2.2.1, S.2.2.2.1, va_up S.2.2.2.2 44 f) ∧ gKp Y F F' := by
  have ne : ∀ x e, F x = e → (∀ n f, e ≠ .inl (gI d, n, .inl f)) → x ≠ sQ S 44 := fun x e h1 h2 z => h2 4 (sF S 44) (by rw [← h1, z]; exact h.p)
  have hqk : ∀ k, k < 46 → k ≠ 44 → sQ S k ≠ sQ S 44 := fun k hk hn e => hn (h.2.2.2.2.1.2 k 44 hk (by omega) e)
  refine ⟨⟨fun i hi => ?_, fun j hj => ?_, ?_, ?_, h.2.2.2.2.1, h.2.2.2.2.2.1, fun x hx => ?_⟩, fun x hx => ?_⟩
  · rw [hF, va_up_ne _ _ (ne _ _ (h.o i hi) (fun n f => gk_oa))]
    exact h.o i hi
  · obtain ⟨h1, h2, h3⟩ := h.r j hj
    have e : va_up S.2.2.2.2 44 f j = S.2.2.2.2 j := va_up_ne _ _ (by omega)
    refine ⟨by rw [hF, va_up_ne _ _ (ne _ _ h1 (fun n f => gk_oa))]; exact h1, ?_, h3⟩
    show F' (sQ S j) = .inl (gI d, sN S j, .inl (va_up S.2.2.2.2 44 f j))
    rw [hF, va_up_ne _ _ (hqk j (by omega) (by omega)), e]
    exact h2
  · obtain ⟨h1, h2, h3⟩ := h.2.2.1
    refine ⟨?_, ?_, h3⟩
    · show F' (sQ S 44) = .inl (gI d, 4, .inl (va_up S.2.2.2.2 44 f 44))
      rw [hF, va_up_self, va_up_self]
    · show F' (sQ S 45) = .inl (gI d, sN S 45, .inl (va_up S.2.2.2.2 44 f 45))
      rw [hF, va_up_ne _ _ (hqk 45 (by omega) (by omega)), va_up_ne _ _ (by omega)]
      exact h2
  · obtain ⟨⟨f1, h1, h2⟩, f2, h3, h4⟩ := h.2.2.2.1
    exact ⟨⟨f1, by rw [hF, va_up_ne _ _ (ne _ _ h1 (fun n f => gk_rl))]; exact h1, h2⟩, f2, by rw [hF, va_up_ne _ _ (ne _ _ h3 (fun n f => gk_rl))]; exact h3, h4⟩
  · obtain ⟨h1, h2, h3, h4⟩ := h.2.2.2.2.2.2 x hx
    exact ⟨by rw [hF, va_up_ne _ _ (h4 44 (by omega))]; exact h1, h2, h3, h4⟩
  · rw [hF, va_up_ne _ _ ((h.2.2.2.2.2.2 x hx).2.2.2 44 (by omega))]
theorem gAc0 {n z : Nat} (h : z < n) : gAc n z = 0 := if_pos h
theorem gAs0 {mo n z : Nat} (h : z < n) : gAs mo n z = 0 := if_pos h
theorem gAn0 {mo n z : Nat} (h : z < n) : gAn mo n z = n := if_pos h
/-- behind an add -/
theorem wt_add (h : gWT d Y F S) {j : Nat} (hj : j < 44) {x : Int32} (hp : (sZ S j < gmo j → ∃ (q' : Nat) (f' : Nat → Int32), gIn d F' (gA' Y j) q' (gmo j) (gAn (gmo j) (sN S j) (sZ S j)) (sZ S j + 1) f' ∧ (q' = sQ S j ∨ F q' = g0) ∧ (∀ i, i < sZ S j → f' i = sF S j i) ∧ f' (sZ S j) = x) ∧ (gmo j ≤ sZ S j → F' = F) ∧ gFr F F' (gA' Y j) (sQ S j)) :
    ∃ S' : gSt, gWT d Y F' S' ∧ gKp Y F F' ∧ gSm S S' [j] [] ∧ (sZ S j < gmo j → sZ S' j = sZ S j + 1 ∧ sN S' j = gAn (gmo j) (sN S j) (sZ S j) ∧ (∀ i, i < sZ S j → sF S' j i = sF S j i) ∧ sF S' j (sZ S j) = x) ∧ (gmo j ≤ sZ S j → S' = S) := by
  by_cases c : sZ S j < gmo j
  · obtain ⟨q', f', h1, h2, h3, h4⟩ := hp.1 c
    obtain ⟨hW, hK⟩ := h.row hj h1 h2 hp.2.2
    refine ⟨_, hW, hK, gSm_uR, fun _ => ⟨va_up_self _ _ _, va_up_self _ _ _, fun i hi => ?_, ?_⟩, fun q => absurd c (by omega)⟩
    · show va_up (sF S) j f' j i = _
      rw [va_up_self]
      exact h3 i hi
    · show va_up (sF S) j f' j _ = _
      rw [va_up_self]
      exact h4
  · have e := hp.2.1 (by omega)
    subst e
    exact ⟨S, h, gKp.rf, gSm.rf, fun q => absurd q c, fun _ => rfl⟩
/-- behind a cut -/
theorem wt_cut (h : gWT d Y F S) {j : Nat} (hj : j < 44) {i : Int32} (hp : (¬ i < 0 ∧ i.toNatClampNeg < sZ S j → gIn d F' (gA' Y j) (sQ S j) (gmo j) (sN S j) i.toNatClampNeg (sF S j)) ∧ (i < 0 ∨ nI (sZ S j) ≤ i → F' = F) ∧ ∀ x : Nat, x ≠ gA' Y j → F x ≠ g0 → F' x = F x) :
    ∃ S' : gSt, gWT d Y F' S' ∧ gKp Y F F' ∧ gSm S S' [j] [] ∧ sN S' j = sN S j ∧ sF S' j = sF S j ∧ (¬ i < 0 ∧ i.toNatClampNeg < sZ S j → sZ S' j = i.toNatClampNeg) ∧ (i < 0 ∨ nI (sZ S j) ≤ i → sZ S' j = sZ S j) ∧ sZ S' j ≤ sZ S j := by
  by_cases c : ¬ i < 0 ∧ i.toNatClampNeg < sZ S j
  · obtain ⟨hW, hK⟩ := h.row hj (hp.1 c) (Or.inl rfl) (fun x h1 _ h3 => hp.2.2 x h1 h3)
    have hlt := (h.r j hj).2.2
    refine ⟨_, hW, hK, gSm_uR, va_up_self _ _ _, va_up_self _ _ _, fun _ => va_up_self _ _ _, fun q => ?_, ?_⟩
    · rcases q with q | q
      · exact absurd q c.1
      · exact absurd c.2 (gmg c.1 q (by omega))
    · show va_up (sZ S) j _ j ≤ _
      rw [va_up_self]
      exact Nat.le_of_lt c.2
  · have e := hp.2.1 (by
      by_cases c0 : i < 0
      · exact Or.inl c0
      · exact Or.inr (Classical.byContradiction fun q => c ⟨c0, gmv c0 q (by have hlt := (h.r j hj).2.2; omega)⟩))
    subst e
    exact ⟨S, h, gKp.rf, gSm.rf, rfl, rfl, fun q => absurd q c, fun _ => rfl, Nat.le_refl _⟩
end WT
theorem gsame_0 {Y : gYt} {S : gSt} {x : Int32} : ∀ i', i' < 11 → i' ≠ 0 → gfs Y (uV S 0 x) i' = gfs Y S i' := by
  intro i h1 h2
  match i, h1, h2 with
  | 0, _, h2 => exact absurd rfl h2
  | 1, _, _ => rfl
  | 2, _, _ => rfl
  | 3, _, _ => rfl
  | 4, _, _ => rfl
  | 5, _, _ => rfl
  | 6, _, _ => rfl
  | 7, _, _ => rfl
  | 8, _, _ => rfl
  | 9, _, _ => rfl
  | 10, _, _ => rfl
theorem gsame_1 {Y : gYt} {S : gSt} {x : Int32} : ∀ i', i' < 11 → i' ≠ 0 → gfs Y (uV S 1 x) i' = gfs Y S i' := by
  intro i h1 h2
  match i, h1, h2 with
  | 0, _, h2 => exact absurd rfl h2
  | 1, _, _ => rfl
  | 2, _, _ => rfl
  | 3, _, _ => rfl
  | 4, _, _ => rfl
  | 5, _, _ => rfl
  | 6, _, _ => rfl
  | 7, _, _ => rfl
  | 8, _, _ => rfl
  | 9, _, _ => rfl
  | 10, _, _ => rfl
theorem gsame_2 {Y : gYt} {S : gSt} {x : Int32} : ∀ i', i' < 11 → i' ≠ 1 → gfs Y (uV S 2 x) i' = gfs Y S i' := by
  intro i h1 h2
  match i, h1, h2 with
  | 0, _, _ => rfl
  | 1, _, h2 => exact absurd rfl h2
  | 2, _, _ => rfl
  | 3, _, _ => rfl
  | 4, _, _ => rfl
  | 5, _, _ => rfl
  | 6, _, _ => rfl
  | 7, _, _ => rfl
  | 8, _, _ => rfl
  | 9, _, _ => rfl
  | 10, _, _ => rfl
theorem gsame_3 {Y : gYt} {S : gSt} {x : Int32} : ∀ i', i' < 11 → i' ≠ 1 → gfs Y (uV S 3 x) i' = gfs Y S i' := by
  intro i h1 h2
  match i, h1, h2 with
  | 0, _, _ => rfl
  | 1, _, h2 => exact absurd rfl h2
  | 2, _, _ => rfl
  | 3, _, _ => rfl
  | 4, _, _ => rfl
  | 5, _, _ => rfl
  | 6, _, _ => rfl
  | 7, _, _ => rfl
  | 8, _, _ => rfl
  | 9, _, _ => rfl
  | 10, _, _ => rfl
theorem gsame_4 {Y : gYt} {S : gSt} {x : Int32} : ∀ i', i' < 11 → i' ≠ 1 → gfs Y (uV S 4 x) i' = gfs Y S i' := by
  intro i h1 h2
  match i, h1, h2 with
  | 0, _, _ => rfl
  | 1, _, h2 => exact absurd rfl h2
  | 2, _, _ => rfl
  | 3, _, _ => rfl
  | 4, _, _ => rfl
  | 5, _, _ => rfl
  | 6, _, _ => rfl
  | 7, _, _ => rfl
  | 8, _, _ => rfl
  | 9, _, _ => rfl
  | 10, _, _ => rfl
theorem gsame_5 {Y : gYt} {S : gSt} {x : Int32} : ∀ i', i' < 11 → i' ≠ 1 → gfs Y (uV S 5 x) i' = gfs Y S i' := by
  intro i h1 h2
  match i, h1, h2 with
  | 0, _, _ => rfl
  | 1, _, h2 => exact absurd rfl h2
  | 2, _, _ => rfl
  | 3, _, _ => rfl
  | 4, _, _ => rfl
  | 5, _, _ => rfl
  | 6, _, _ => rfl
  | 7, _, _ => rfl
  | 8, _, _ => rfl
  | 9, _, _ => rfl
  | 10, _, _ => rfl
theorem gsame_6 {Y : gYt} {S : gSt} {x : Int32} : ∀ i', i' < 11 → i' ≠ 1 → gfs Y (uV S 6 x) i' = gfs Y S i' := by
  intro i h1 h2
  match i, h1, h2 with
  | 0, _, _ => rfl
  | 1, _, h2 => exact absurd rfl h2
  | 2, _, _ => rfl
  | 3, _, _ => rfl
  | 4, _, _ => rfl
  | 5, _, _ => rfl
  | 6, _, _ => rfl
  | 7, _, _ => rfl
  | 8, _, _ => rfl
  | 9, _, _ => rfl
  | 10, _, _ => rfl
theorem gsame_7 {Y : gYt} {S : gSt} {x : Int32} : ∀ i', i' < 11 → i' ≠ 3 → gfs Y (uV S 7 x) i' = gfs Y S i' := by
  intro i h1 h2
  match i, h1, h2 with
  | 0, _, _ => rfl
  | 1, _, _ => rfl
  | 2, _, _ => rfl
  | 3, _, h2 => exact absurd rfl h2
  | 4, _, _ => rfl
  | 5, _, _ => rfl
  | 6, _, _ => rfl
  | 7, _, _ => rfl
  | 8, _, _ => rfl
  | 9, _, _ => rfl
  | 10, _, _ => rfl
theorem gsame_8 {Y : gYt} {S : gSt} {x : Int32} : ∀ i', i' < 11 → i' ≠ 3 → gfs Y (uV S 8 x) i' = gfs Y S i' := by
  intro i h1 h2
  match i, h1, h2 with
  | 0, _, _ => rfl
  | 1, _, _ => rfl
  | 2, _, _ => rfl
  | 3, _, h2 => exact absurd rfl h2
  | 4, _, _ => rfl
  | 5, _, _ => rfl
  | 6, _, _ => rfl
  | 7, _, _ => rfl
  | 8, _, _ => rfl
  | 9, _, _ => rfl
  | 10, _, _ => rfl
theorem gsame_9 {Y : gYt} {S : gSt} {x : Int32} : ∀ i', i' < 11 → i' ≠ 3 → gfs Y (uV S 9 x) i' = gfs Y S i' := by
  intro i h1 h2
  match i, h1, h2 with
  | 0, _, _ => rfl
  | 1, _, _ => rfl
  | 2, _, _ => rfl
  | 3, _, h2 => exact absurd rfl h2
  | 4, _, _ => rfl
  | 5, _, _ => rfl
  | 6, _, _ => rfl
  | 7, _, _ => rfl
  | 8, _, _ => rfl
  | 9, _, _ => rfl
  | 10, _, _ => rfl
theorem gsame_10 {Y : gYt} {S : gSt} {x : Int32} : ∀ i', i' < 11 → i' ≠ 4 → gfs Y (uV S 10 x) i' = gfs Y S i' := by
  intro i h1 h2
  match i, h1, h2 with
  | 0, _, _ => rfl
  | 1, _, _ => rfl
  | 2, _, _ => rfl
  | 3, _, _ => rfl
  | 4, _, h2 => exact absurd rfl h2
  | 5, _, _ => rfl
  | 6, _, _ => rfl
  | 7, _, _ => rfl
  | 8, _, _ => rfl
  | 9, _, _ => rfl
  | 10, _, _ => rfl
theorem gsame_11 {Y : gYt} {S : gSt} {x : Int32} : ∀ i', i' < 11 → i' ≠ 4 → gfs Y (uV S 11 x) i' = gfs Y S i' := by
  intro i h1 h2
  match i, h1, h2 with
  | 0, _, _ => rfl
  | 1, _, _ => rfl
  | 2, _, _ => rfl
  | 3, _, _ => rfl
  | 4, _, h2 => exact absurd rfl h2
  | 5, _, _ => rfl
  | 6, _, _ => rfl
  | 7, _, _ => rfl
  | 8, _, _ => rfl
  | 9, _, _ => rfl
  | 10, _, _ => rfl
theorem gsame_12 {Y : gYt} {S : gSt} {x : Int32} : ∀ i', i' < 11 → i' ≠ 4 → gfs Y (uV S 12 x) i' = gfs Y S i' := by
  intro i h1 h2
  match i, h1, h2 with
  | 0, _, _ => rfl
  | 1, _, _ => rfl
  | 2, _, _ => rfl
  | 3, _, _ => rfl
  | 4, _, h2 => exact absurd rfl h2
  | 5, _, _ => rfl
  | 6, _, _ => rfl
  | 7, _, _ => rfl
  | 8, _, _ => rfl
  | 9, _, _ => rfl
  | 10, _, _ => rfl
theorem gsame_13 {Y : gYt} {S : gSt} {x : Int32} : ∀ i', i' < 11 → i' ≠ 5 → gfs Y (uV S 13 x) i' = gfs Y S i' := by
  intro i h1 h2
  match i, h1, h2 with
  | 0, _, _ => rfl
  | 1, _, _ => rfl
  | 2, _, _ => rfl
  | 3, _, _ => rfl
  | 4, _, _ => rfl
  | 5, _, h2 => exact absurd rfl h2
  | 6, _, _ => rfl
  | 7, _, _ => rfl
  | 8, _, _ => rfl
  | 9, _, _ => rfl
  | 10, _, _ => rfl
theorem gsame_14 {Y : gYt} {S : gSt} {x : Int32} : ∀ i', i' < 11 → i' ≠ 5 → gfs Y (uV S 14 x) i' = gfs Y S i' := by
  intro i h1 h2
  match i, h1, h2 with
  | 0, _, _ => rfl
  | 1, _, _ => rfl
  | 2, _, _ => rfl
  | 3, _, _ => rfl
  | 4, _, _ => rfl
  | 5, _, h2 => exact absurd rfl h2
  | 6, _, _ => rfl
  | 7, _, _ => rfl
  | 8, _, _ => rfl
  | 9, _, _ => rfl
  | 10, _, _ => rfl
theorem gsame_15 {Y : gYt} {S : gSt} {x : Int32} : ∀ i', i' < 11 → i' ≠ 5 → gfs Y (uV S 15 x) i' = gfs Y S i' := by
  intro i h1 h2
  match i, h1, h2 with
  | 0, _, _ => rfl
  | 1, _, _ => rfl
  | 2, _, _ => rfl
  | 3, _, _ => rfl
  | 4, _, _ => rfl
  | 5, _, h2 => exact absurd rfl h2
  | 6, _, _ => rfl
  | 7, _, _ => rfl
  | 8, _, _ => rfl
  | 9, _, _ => rfl
  | 10, _, _ => rfl
theorem gsame_16 {Y : gYt} {S : gSt} {x : Int32} : ∀ i', i' < 11 → i' ≠ 5 → gfs Y (uV S 16 x) i' = gfs Y S i' := by
  intro i h1 h2
  match i, h1, h2 with
  | 0, _, _ => rfl
  | 1, _, _ => rfl
  | 2, _, _ => rfl
  | 3, _, _ => rfl
  | 4, _, _ => rfl
  | 5, _, h2 => exact absurd rfl h2
  | 6, _, _ => rfl
  | 7, _, _ => rfl
  | 8, _, _ => rfl
  | 9, _, _ => rfl
  | 10, _, _ => rfl
theorem gsame_17 {Y : gYt} {S : gSt} {x : Int32} : ∀ i', i' < 11 → i' ≠ 5 → gfs Y (uV S 17 x) i' = gfs Y S i' := by
  intro i h1 h2
  match i, h1, h2 with
  | 0, _, _ => rfl
  | 1, _, _ => rfl
  | 2, _, _ => rfl
  | 3, _, _ => rfl
  | 4, _, _ => rfl
  | 5, _, h2 => exact absurd rfl h2
  | 6, _, _ => rfl
  | 7, _, _ => rfl
  | 8, _, _ => rfl
  | 9, _, _ => rfl
  | 10, _, _ => rfl
theorem gsame_18 {Y : gYt} {S : gSt} {x : Int32} : ∀ i', i' < 11 → i' ≠ 5 → gfs Y (uV S 18 x) i' = gfs Y S i' := by
  intro i h1 h2
  match i, h1, h2 with
  | 0, _, _ => rfl
  | 1, _, _ => rfl
  | 2, _, _ => rfl
  | 3, _, _ => rfl
  | 4, _, _ => rfl
  | 5, _, h2 => exact absurd rfl h2
  | 6, _, _ => rfl
  | 7, _, _ => rfl
  | 8, _, _ => rfl
  | 9, _, _ => rfl
  | 10, _, _ => rfl
theorem gsame_19 {Y : gYt} {S : gSt} {x : Int32} : ∀ i', i' < 11 → i' ≠ 5 → gfs Y (uV S 19 x) i' = gfs Y S i' := by
  intro i h1 h2
  match i, h1, h2 with
  | 0, _, _ => rfl
  | 1, _, _ => rfl
  | 2, _, _ => rfl
  | 3, _, _ => rfl
  | 4, _, _ => rfl
  | 5, _, h2 => exact absurd rfl h2
  | 6, _, _ => rfl
  | 7, _, _ => rfl
  | 8, _, _ => rfl
  | 9, _, _ => rfl
  | 10, _, _ => rfl
theorem gsame_20 {Y : gYt} {S : gSt} {x : Int32} : ∀ i', i' < 11 → i' ≠ 5 → gfs Y (uV S 20 x) i' = gfs Y S i' := by
  intro i h1 h2
  match i, h1, h2 with
  | 0, _, _ => rfl
  | 1, _, _ => rfl
  | 2, _, _ => rfl
  | 3, _, _ => rfl
  | 4, _, _ => rfl
  | 5, _, h2 => exact absurd rfl h2
  | 6, _, _ => rfl
  | 7, _, _ => rfl
  | 8, _, _ => rfl
  | 9, _, _ => rfl
  | 10, _, _ => rfl
theorem gsame_21 {Y : gYt} {S : gSt} {x : Int32} : ∀ i', i' < 11 → i' ≠ 5 → gfs Y (uV S 21 x) i' = gfs Y S i' := by
  intro i h1 h2
  match i, h1, h2 with
  | 0, _, _ => rfl
  | 1, _, _ => rfl
  | 2, _, _ => rfl
  | 3, _, _ => rfl
  | 4, _, _ => rfl
  | 5, _, h2 => exact absurd rfl h2
  | 6, _, _ => rfl
  | 7, _, _ => rfl
  | 8, _, _ => rfl
  | 9, _, _ => rfl
  | 10, _, _ => rfl
theorem gsame_22 {Y : gYt} {S : gSt} {x : Int32} : ∀ i', i' < 11 → i' ≠ 5 → gfs Y (uV S 22 x) i' = gfs Y S i' := by
  intro i h1 h2
  match i, h1, h2 with
  | 0, _, _ => rfl
  | 1, _, _ => rfl
  | 2, _, _ => rfl
  | 3, _, _ => rfl
  | 4, _, _ => rfl
  | 5, _, h2 => exact absurd rfl h2
  | 6, _, _ => rfl
  | 7, _, _ => rfl
  | 8, _, _ => rfl
  | 9, _, _ => rfl
  | 10, _, _ => rfl
theorem gsame_23 {Y : gYt} {S : gSt} {x : Int32} : ∀ i', i' < 11 → i' ≠ 5 → gfs Y (uV S 23 x) i' = gfs Y S i' := by
  intro i h1 h2
  match i, h1, h2 with
  | 0, _, _ => rfl
  | 1, _, _ => rfl
  | 2, _, _ => rfl
  | 3, _, _ => rfl
  | 4, _, _ => rfl
  | 5, _, h2 => exact absurd rfl h2
  | 6, _, _ => rfl
  | 7, _, _ => rfl
  | 8, _, _ => rfl
  | 9, _, _ => rfl
  | 10, _, _ => rfl
theorem gsame_24 {Y : gYt} {S : gSt} {x : Int32} : ∀ i', i' < 11 → i' ≠ 5 → gfs Y (uV S 24 x) i' = gfs Y S i' := by
  intro i h1 h2
  match i, h1, h2 with
  | 0, _, _ => rfl
  | 1, _, _ => rfl
  | 2, _, _ => rfl
  | 3, _, _ => rfl
  | 4, _, _ => rfl
  | 5, _, h2 => exact absurd rfl h2
  | 6, _, _ => rfl
  | 7, _, _ => rfl
  | 8, _, _ => rfl
  | 9, _, _ => rfl
  | 10, _, _ => rfl
theorem gsame_25 {Y : gYt} {S : gSt} {x : Int32} : ∀ i', i' < 11 → i' ≠ 6 → gfs Y (uV S 25 x) i' = gfs Y S i' := by
  intro i h1 h2
  match i, h1, h2 with
  | 0, _, _ => rfl
  | 1, _, _ => rfl
  | 2, _, _ => rfl
  | 3, _, _ => rfl
  | 4, _, _ => rfl
  | 5, _, _ => rfl
  | 6, _, h2 => exact absurd rfl h2
  | 7, _, _ => rfl
  | 8, _, _ => rfl
  | 9, _, _ => rfl
  | 10, _, _ => rfl
theorem gsame_26 {Y : gYt} {S : gSt} {x : Int32} : ∀ i', i' < 11 → i' ≠ 6 → gfs Y (uV S 26 x) i' = gfs Y S i' := by
  intro i h1 h2
  match i, h1, h2 with
  | 0, _, _ => rfl
  | 1, _, _ => rfl
  | 2, _, _ => rfl
  | 3, _, _ => rfl
  | 4, _, _ => rfl
  | 5, _, _ => rfl
  | 6, _, h2 => exact absurd rfl h2
  | 7, _, _ => rfl
  | 8, _, _ => rfl
  | 9, _, _ => rfl
  | 10, _, _ => rfl
theorem gsame_27 {Y : gYt} {S : gSt} {x : Int32} : ∀ i', i' < 11 → i' ≠ 7 → gfs Y (uV S 27 x) i' = gfs Y S i' := by
  intro i h1 h2
  match i, h1, h2 with
  | 0, _, _ => rfl
  | 1, _, _ => rfl
  | 2, _, _ => rfl
  | 3, _, _ => rfl
  | 4, _, _ => rfl
  | 5, _, _ => rfl
  | 6, _, _ => rfl
  | 7, _, h2 => exact absurd rfl h2
  | 8, _, _ => rfl
  | 9, _, _ => rfl
  | 10, _, _ => rfl
theorem gsame_28 {Y : gYt} {S : gSt} {x : Int32} : ∀ i', i' < 11 → i' ≠ 7 → gfs Y (uV S 28 x) i' = gfs Y S i' := by
  intro i h1 h2
  match i, h1, h2 with
  | 0, _, _ => rfl
  | 1, _, _ => rfl
  | 2, _, _ => rfl
  | 3, _, _ => rfl
  | 4, _, _ => rfl
  | 5, _, _ => rfl
  | 6, _, _ => rfl
  | 7, _, h2 => exact absurd rfl h2
  | 8, _, _ => rfl
  | 9, _, _ => rfl
  | 10, _, _ => rfl
theorem gsame_29 {Y : gYt} {S : gSt} {x : Int32} : ∀ i', i' < 11 → i' ≠ 7 → gfs Y (uV S 29 x) i' = gfs Y S i' := by
  intro i h1 h2
  match i, h1, h2 with
  | 0, _, _ => rfl
  | 1, _, _ => rfl
  | 2, _, _ => rfl
  | 3, _, _ => rfl
  | 4, _, _ => rfl
  | 5, _, _ => rfl
  | 6, _, _ => rfl
  | 7, _, h2 => exact absurd rfl h2
  | 8, _, _ => rfl
  | 9, _, _ => rfl
  | 10, _, _ => rfl
theorem gsame_30 {Y : gYt} {S : gSt} {x : Int32} : ∀ i', i' < 11 → i' ≠ 7 → gfs Y (uV S 30 x) i' = gfs Y S i' := by
  intro i h1 h2
  match i, h1, h2 with
  | 0, _, _ => rfl
  | 1, _, _ => rfl
  | 2, _, _ => rfl
  | 3, _, _ => rfl
  | 4, _, _ => rfl
  | 5, _, _ => rfl
  | 6, _, _ => rfl
  | 7, _, h2 => exact absurd rfl h2
  | 8, _, _ => rfl
  | 9, _, _ => rfl
  | 10, _, _ => rfl
theorem gsame_31 {Y : gYt} {S : gSt} {x : Int32} : ∀ i', i' < 11 → i' ≠ 7 → gfs Y (uV S 31 x) i' = gfs Y S i' := by
  intro i h1 h2
  match i, h1, h2 with
  | 0, _, _ => rfl
  | 1, _, _ => rfl
  | 2, _, _ => rfl
  | 3, _, _ => rfl
  | 4, _, _ => rfl
  | 5, _, _ => rfl
  | 6, _, _ => rfl
  | 7, _, h2 => exact absurd rfl h2
  | 8, _, _ => rfl
  | 9, _, _ => rfl
  | 10, _, _ => rfl
theorem gsame_32 {Y : gYt} {S : gSt} {x : Int32} : ∀ i', i' < 11 → i' ≠ 7 → gfs Y (uV S 32 x) i' = gfs Y S i' := by
  intro i h1 h2
  match i, h1, h2 with
  | 0, _, _ => rfl
  | 1, _, _ => rfl
  | 2, _, _ => rfl
  | 3, _, _ => rfl
  | 4, _, _ => rfl
  | 5, _, _ => rfl
  | 6, _, _ => rfl
  | 7, _, h2 => exact absurd rfl h2
  | 8, _, _ => rfl
  | 9, _, _ => rfl
  | 10, _, _ => rfl
theorem gsame_33 {Y : gYt} {S : gSt} {x : Int32} : ∀ i', i' < 11 → i' ≠ 7 → gfs Y (uV S 33 x) i' = gfs Y S i' := by
  intro i h1 h2
  match i, h1, h2 with
  | 0, _, _ => rfl
  | 1, _, _ => rfl
  | 2, _, _ => rfl
  | 3, _, _ => rfl
  | 4, _, _ => rfl
  | 5, _, _ => rfl
  | 6, _, _ => rfl
  | 7, _, h2 => exact absurd rfl h2
  | 8, _, _ => rfl
  | 9, _, _ => rfl
  | 10, _, _ => rfl
theorem gsame_34 {Y : gYt} {S : gSt} {x : Int32} : ∀ i', i' < 11 → i' ≠ 7 → gfs Y (uV S 34 x) i' = gfs Y S i' := by
  intro i h1 h2
  match i, h1, h2 with
  | 0, _, _ => rfl
  | 1, _, _ => rfl
  | 2, _, _ => rfl
  | 3, _, _ => rfl
  | 4, _, _ => rfl
  | 5, _, _ => rfl
  | 6, _, _ => rfl
  | 7, _, h2 => exact absurd rfl h2
  | 8, _, _ => rfl
  | 9, _, _ => rfl
  | 10, _, _ => rfl
theorem gsame_35 {Y : gYt} {S : gSt} {x : Int32} : ∀ i', i' < 11 → i' ≠ 7 → gfs Y (uV S 35 x) i' = gfs Y S i' := by
  intro i h1 h2
  match i, h1, h2 with
  | 0, _, _ => rfl
  | 1, _, _ => rfl
  | 2, _, _ => rfl
  | 3, _, _ => rfl
  | 4, _, _ => rfl
  | 5, _, _ => rfl
  | 6, _, _ => rfl
  | 7, _, h2 => exact absurd rfl h2
  | 8, _, _ => rfl
  | 9, _, _ => rfl
  | 10, _, _ => rfl
theorem gsame_36 {Y : gYt} {S : gSt} {x : Int32} : ∀ i', i' < 11 → i' ≠ 7 → gfs Y (uV S 36 x) i' = gfs Y S i' := by
  intro i h1 h2
  match i, h1, h2 with
  | 0, _, _ => rfl
  | 1, _, _ => rfl
  | 2, _, _ => rfl
  | 3, _, _ => rfl
  | 4, _, _ => rfl
  | 5, _, _ => rfl
  | 6, _, _ => rfl
  | 7, _, h2 => exact absurd rfl h2
  | 8, _, _ => rfl
  | 9, _, _ => rfl
  | 10, _, _ => rfl
theorem gsame_37 {Y : gYt} {S : gSt} {x : Int32} : ∀ i', i' < 11 → i' ≠ 8 → gfs Y (uV S 37 x) i' = gfs Y S i' := by
  intro i h1 h2
  match i, h1, h2 with
  | 0, _, _ => rfl
  | 1, _, _ => rfl
  | 2, _, _ => rfl
  | 3, _, _ => rfl
  | 4, _, _ => rfl
  | 5, _, _ => rfl
  | 6, _, _ => rfl
  | 7, _, _ => rfl
  | 8, _, h2 => exact absurd rfl h2
  | 9, _, _ => rfl
  | 10, _, _ => rfl
theorem gsame_38 {Y : gYt} {S : gSt} {x : Int32} : ∀ i', i' < 11 → i' ≠ 9 → gfs Y (uV S 38 x) i' = gfs Y S i' := by
  intro i h1 h2
  match i, h1, h2 with
  | 0, _, _ => rfl
  | 1, _, _ => rfl
  | 2, _, _ => rfl
  | 3, _, _ => rfl
  | 4, _, _ => rfl
  | 5, _, _ => rfl
  | 6, _, _ => rfl
  | 7, _, _ => rfl
  | 8, _, _ => rfl
  | 9, _, h2 => exact absurd rfl h2
  | 10, _, _ => rfl
theorem gsame_39 {Y : gYt} {S : gSt} {x : Int32} : ∀ i', i' < 11 → i' ≠ 9 → gfs Y (uV S 39 x) i' = gfs Y S i' := by
  intro i h1 h2
  match i, h1, h2 with
  | 0, _, _ => rfl
  | 1, _, _ => rfl
  | 2, _, _ => rfl
  | 3, _, _ => rfl
  | 4, _, _ => rfl
  | 5, _, _ => rfl
  | 6, _, _ => rfl
  | 7, _, _ => rfl
  | 8, _, _ => rfl
  | 9, _, h2 => exact absurd rfl h2
  | 10, _, _ => rfl
theorem gsame_40 {Y : gYt} {S : gSt} {x : Int32} : ∀ i', i' < 11 → i' ≠ 9 → gfs Y (uV S 40 x) i' = gfs Y S i' := by
  intro i h1 h2
  match i, h1, h2 with
  | 0, _, _ => rfl
  | 1, _, _ => rfl
  | 2, _, _ => rfl
  | 3, _, _ => rfl
  | 4, _, _ => rfl
  | 5, _, _ => rfl
  | 6, _, _ => rfl
  | 7, _, _ => rfl
  | 8, _, _ => rfl
  | 9, _, h2 => exact absurd rfl h2
  | 10, _, _ => rfl
end
section
theorem kw_306 : Cond.fieldLink RX7 43 "WordTongue$Program" "kind" "I" ∈ gWs := gWm 306 (by decide +kernel) rfl
theorem kw_309 : Cond.laysFinal RX7 "WordTongue$Program" "code" "LWordTongue$Ints;" ∈ gWs := gWm 309 (by decide +kernel) rfl
theorem kw_311 : Cond.laysFinal RX7 "WordTongue$Program" "image" "LWordTongue$Ints;" ∈ gWs := gWm 311 (by decide +kernel) rfl
theorem kw_313 : Cond.laysFinal RX7 "WordTongue$Program" "homes" "LWordTongue$Ints;" ∈ gWs := gWm 313 (by decide +kernel) rfl
theorem kw_315 : Cond.laysFinal RX7 "WordTongue$Program" "starts" "LWordTongue$Ints;" ∈ gWs := gWm 315 (by decide +kernel) rfl
theorem kw_317 : Cond.laysFinal RX7 "WordTongue$Program" "frames" "LWordTongue$Ints;" ∈ gWs := gWm 317 (by decide +kernel) rfl
theorem kw_319 : Cond.laysFinal RX7 "WordTongue$Program" "params" "LWordTongue$Ints;" ∈ gWs := gWm 319 (by decide +kernel) rfl
theorem kw_321 : Cond.lays RX7 "WordTongue$Program" "storeWords" "I" ∈ gWs := gWm 321 (by decide +kernel) rfl
theorem kw_323 : Cond.lays RX7 "WordTongue$Program" "starter" "I" ∈ gWs := gWm 323 (by decide +kernel) rfl
theorem kw_325 : Cond.lays RX7 "WordTongue$Program" "kind" "I" ∈ gWs := gWm 325 (by decide +kernel) rfl
theorem kw_327 : Cond.lays RX7 "WordTongue$Program" "place" "I" ∈ gWs := gWm 327 (by decide +kernel) rfl
theorem kw_329 : Cond.lays RX7 "WordTongue$Program" "ready" "Z" ∈ gWs := gWm 329 (by decide +kernel) rfl
set_option maxRecDepth 20000 in
theorem inW_RX7 : ∀ w ∈ u_ws RX7 TX7 11, w ∈ gWs := List.forall_mem_cons.mpr ⟨kw_309, List.forall_mem_cons.mpr ⟨kw_311, List.forall_mem_cons.mpr ⟨kw_313, List.forall_mem_cons.mpr ⟨kw_315, List.forall_mem_cons.mpr ⟨kw_317, List.forall_mem_cons.mpr ⟨kw_319, List.forall_mem_cons.mpr ⟨kw_321, List.forall_mem_cons.mpr ⟨kw_323, List.forall_mem_cons.mpr ⟨kw_325, List.forall_mem_cons.mpr ⟨kw_327, List.forall_mem_cons.mpr ⟨kw_329, fun _ h => nomatch h⟩⟩⟩⟩⟩⟩⟩⟩⟩⟩⟩
theorem fl_X7_43 : gFL RX7 43 7 8 .int false := ⟨RX7, TX7, 11, tyX7, rfl, by decide, inW_RX7, kw_306, tyX7_ok, nmX7, rfl, by decide +kernel, fun h => by cases h⟩
theorem kw_307 : Cond.fieldLink RX7 46 "WordTongue$Program" "place" "I" ∈ gWs := gWm 307 (by decide +kernel) rfl
theorem fl_X7_46 : gFL RX7 46 7 9 .int false := ⟨RX7, TX7, 11, tyX7, rfl, by decide, inW_RX7, kw_307, tyX7_ok, nmX7, rfl, by decide +kernel, fun h => by cases h⟩
theorem kw_308 : Cond.fieldLink RX7 49 "WordTongue$Program" "ready" "Z" ∈ gWs := gWm 308 (by decide +kernel) rfl
theorem fl_X7_49 : gFL RX7 49 7 10 .boolean false := ⟨RX7, TX7, 11, tyX7, rfl, by decide, inW_RX7, kw_308, tyX7_ok, nmX7, rfl, by decide +kernel, fun h => by cases h⟩
theorem kw_299 : Cond.fieldLink RX7 21 "WordTongue$Program" "image" "LWordTongue$Ints;" ∈ gWs := gWm 299 (by decide +kernel) rfl
theorem fl_X7_21 : gFL RX7 21 7 1 (.object "WordTongue$Ints") true := ⟨RX7, TX7, 11, tyX7, rfl, by decide, inW_RX7, kw_299, tyX7_ok, nmX7, rfl, by decide +kernel, fun _ => rfl⟩
theorem kw_239 : Cond.initialized RX4 ∈ gWs := gWm 239 (by decide +kernel) rfl
theorem kw_428 : Cond.code yX4_size cX4_size 1 (some .int) ∈ gWs := gWm 428 (by decide +kernel) rfl
theorem kw_859 : Cond.methodLink RX7 67 yX4_size ∈ gWs := gWm 859 (by decide +kernel) rfl
theorem kw_426 : Cond.instanceMethod yX4_size ∈ gWs := gWm 426 (by decide +kernel) rfl
theorem kw_427 : Cond.selects RX4 yX4_size yX4_size ∈ gWs := gWm 427 (by decide +kernel) rfl
theorem cl_X7_67 : gCV RX7 67 yX4_size cX4_size 1 (some .int) 0 := ⟨g_mk [.methodLink RX7 67 yX4_size, .instanceMethod yX4_size, .selects yX4_size.cls yX4_size yX4_size, .initialized yX4_size.cls] (gWs_all kw_428) (List.forall_mem_cons.mpr ⟨kw_859, List.forall_mem_cons.mpr ⟨kw_426, List.forall_mem_cons.mpr ⟨kw_427, List.forall_mem_cons.mpr ⟨kw_239, fun _ h => nomatch h⟩⟩⟩⟩), rfl, by decide +kernel, by decide +kernel, by decide +kernel⟩
theorem kw_298 : Cond.fieldLink RX7 15 "WordTongue$Program" "code" "LWordTongue$Ints;" ∈ gWs := gWm 298 (by decide +kernel) rfl
theorem fl_X7_15 : gFL RX7 15 7 0 (.object "WordTongue$Ints") true := ⟨RX7, TX7, 11, tyX7, rfl, by decide, inW_RX7, kw_298, tyX7_ok, nmX7, rfl, by decide +kernel, fun _ => rfl⟩
theorem kw_444 : Cond.code yX4_add cX4_add 2 none ∈ gWs := gWm 444 (by decide +kernel) rfl
theorem kw_854 : Cond.methodLink RX7 56 yX4_add ∈ gWs := gWm 854 (by decide +kernel) rfl
theorem kw_442 : Cond.instanceMethod yX4_add ∈ gWs := gWm 442 (by decide +kernel) rfl
theorem kw_443 : Cond.selects RX4 yX4_add yX4_add ∈ gWs := gWm 443 (by decide +kernel) rfl
theorem cl_X7_56 : gCV RX7 56 yX4_add cX4_add 2 none 1 := ⟨g_mk [.methodLink RX7 56 yX4_add, .instanceMethod yX4_add, .selects yX4_add.cls yX4_add yX4_add, .initialized yX4_add.cls] (gWs_all kw_444) (List.forall_mem_cons.mpr ⟨kw_854, List.forall_mem_cons.mpr ⟨kw_442, List.forall_mem_cons.mpr ⟨kw_443, List.forall_mem_cons.mpr ⟨kw_239, fun _ h => nomatch h⟩⟩⟩⟩), rfl, by decide +kernel, by decide +kernel, by decide +kernel⟩
theorem kw_468 : Cond.code yX4_cut cX4_cut 2 none ∈ gWs := gWm 468 (by decide +kernel) rfl
theorem kw_853 : Cond.methodLink RX7 53 yX4_cut ∈ gWs := gWm 853 (by decide +kernel) rfl
theorem kw_466 : Cond.instanceMethod yX4_cut ∈ gWs := gWm 466 (by decide +kernel) rfl
theorem kw_467 : Cond.selects RX4 yX4_cut yX4_cut ∈ gWs := gWm 467 (by decide +kernel) rfl
theorem cl_X7_53 : gCV RX7 53 yX4_cut cX4_cut 2 none 1 := ⟨g_mk [.methodLink RX7 53 yX4_cut, .instanceMethod yX4_cut, .selects yX4_cut.cls yX4_cut yX4_cut, .initialized yX4_cut.cls] (gWs_all kw_468) (List.forall_mem_cons.mpr ⟨kw_853, List.forall_mem_cons.mpr ⟨kw_466, List.forall_mem_cons.mpr ⟨kw_467, List.forall_mem_cons.mpr ⟨kw_239, fun _ h => nomatch h⟩⟩⟩⟩), rfl, by decide +kernel, by decide +kernel, by decide +kernel⟩
theorem kw_300 : Cond.fieldLink RX7 24 "WordTongue$Program" "homes" "LWordTongue$Ints;" ∈ gWs := gWm 300 (by decide +kernel) rfl
theorem fl_X7_24 : gFL RX7 24 7 2 (.object "WordTongue$Ints") true := ⟨RX7, TX7, 11, tyX7, rfl, by decide, inW_RX7, kw_300, tyX7_ok, nmX7, rfl, by decide +kernel, fun _ => rfl⟩
theorem kw_301 : Cond.fieldLink RX7 27 "WordTongue$Program" "starts" "LWordTongue$Ints;" ∈ gWs := gWm 301 (by decide +kernel) rfl
theorem fl_X7_27 : gFL RX7 27 7 3 (.object "WordTongue$Ints") true := ⟨RX7, TX7, 11, tyX7, rfl, by decide, inW_RX7, kw_301, tyX7_ok, nmX7, rfl, by decide +kernel, fun _ => rfl⟩
theorem kw_302 : Cond.fieldLink RX7 30 "WordTongue$Program" "frames" "LWordTongue$Ints;" ∈ gWs := gWm 302 (by decide +kernel) rfl
theorem fl_X7_30 : gFL RX7 30 7 4 (.object "WordTongue$Ints") true := ⟨RX7, TX7, 11, tyX7, rfl, by decide, inW_RX7, kw_302, tyX7_ok, nmX7, rfl, by decide +kernel, fun _ => rfl⟩
theorem kw_303 : Cond.fieldLink RX7 33 "WordTongue$Program" "params" "LWordTongue$Ints;" ∈ gWs := gWm 303 (by decide +kernel) rfl
theorem fl_X7_33 : gFL RX7 33 7 5 (.object "WordTongue$Ints") true := ⟨RX7, TX7, 11, tyX7, rfl, by decide, inW_RX7, kw_303, tyX7_ok, nmX7, rfl, by decide +kernel, fun _ => rfl⟩
theorem kw_240 : Cond.initialized RX7 ∈ gWs := gWm 240 (by decide +kernel) rfl
theorem kw_858 : Cond.code yX7_emit cX7_emit 3 (some .int) ∈ gWs := gWm 858 (by decide +kernel) rfl
theorem kw_855 : Cond.methodLink RX7 59 yX7_emit ∈ gWs := gWm 855 (by decide +kernel) rfl
theorem kw_856 : Cond.instanceMethod yX7_emit ∈ gWs := gWm 856 (by decide +kernel) rfl
theorem kw_857 : Cond.selects RX7 yX7_emit yX7_emit ∈ gWs := gWm 857 (by decide +kernel) rfl
theorem cl_X7_59 : gCV RX7 59 yX7_emit cX7_emit 3 (some .int) 2 := ⟨g_mk [.methodLink RX7 59 yX7_emit, .instanceMethod yX7_emit, .selects yX7_emit.cls yX7_emit yX7_emit, .initialized yX7_emit.cls] (gWs_all kw_858) (List.forall_mem_cons.mpr ⟨kw_855, List.forall_mem_cons.mpr ⟨kw_856, List.forall_mem_cons.mpr ⟨kw_857, List.forall_mem_cons.mpr ⟨kw_240, fun _ h => nomatch h⟩⟩⟩⟩), rfl, by decide +kernel, by decide +kernel, by decide +kernel⟩
theorem kw_304 : Cond.fieldLink RX7 36 "WordTongue$Program" "storeWords" "I" ∈ gWs := gWm 304 (by decide +kernel) rfl
theorem fl_X7_36 : gFL RX7 36 7 6 .int false := ⟨RX7, TX7, 11, tyX7, rfl, by decide, inW_RX7, kw_304, tyX7_ok, nmX7, rfl, by decide +kernel, fun h => by cases h⟩
theorem kw_305 : Cond.fieldLink RX7 40 "WordTongue$Program" "starter" "I" ∈ gWs := gWm 305 (by decide +kernel) rfl
theorem fl_X7_40 : gFL RX7 40 7 7 .int false := ⟨RX7, TX7, 11, tyX7, rfl, by decide, inW_RX7, kw_305, tyX7_ok, nmX7, rfl, by decide +kernel, fun h => by cases h⟩
theorem w_mo (j : Nat) : 100 ≤ gmo j := by
  unfold gmo
  split <;> omega
theorem gnb {x : Int32} (h : x = 0 ∨ x = 1) : narrow .boolean (.int x) = .int x := by rcases h with rfl | rfl <;> rfl
theorem dX7_faultKind_0 : decode cX7_faultKind 0 = .ok (.aload_n 0, 1) := by decide +kernel
theorem dX7_faultKind_1 : decode cX7_faultKind 1 = .ok (.getfield 43, 3) := by decide +kernel
theorem dX7_faultKind_4 : decode cX7_faultKind 4 = .ok (.ireturn, 1) := by decide +kernel
set_option maxHeartbeats 4000000 in
set_option maxRecDepth 100000 in
theorem c_P_kind (l : Launch) (d : gD) (b : Nat) (Y : gYt) (F : gM) (S : gSt) (hW : gWT d Y F S)  : gMi l d b yX7_faultKind cX7_faultKind 1 .int 0 0 0 F [.ref (gO' Y 1)] (fun r F' => r = sV S 4 ∧ F' = F) := by
  refine gM_of2 rfl (nL := 1) (Nat.le_of_ble_eq_true rfl) ?_
  intro X hX hC; subst hX
  show gG X d b _ F 0 0 0 [some (.ref (gO' Y 1))] []
  have hM0 : gSm S S [] [] := gSm.rf
  have hK0 : gKp Y F F := gKp.rf
  refine g_aload_n hC dX7_faultKind_0 rfl ?_
  refine g_get hC fl_X7_43 (hW.o 1 (by decide)) rfl dX7_faultKind_1 ?_
  exact g_iret hC rfl ⟨rfl, rfl⟩ (by first | exact Nat.le_of_ble_eq_true rfl | omega | (simp only [gR]; omega)) (by first | exact Nat.le_of_ble_eq_true rfl | omega | (simp only [gR]; omega)) dX7_faultKind_4
theorem dX7_faultPlace_0 : decode cX7_faultPlace 0 = .ok (.aload_n 0, 1) := by decide +kernel
theorem dX7_faultPlace_1 : decode cX7_faultPlace 1 = .ok (.getfield 46, 3) := by decide +kernel
theorem dX7_faultPlace_4 : decode cX7_faultPlace 4 = .ok (.ireturn, 1) := by decide +kernel
set_option maxHeartbeats 4000000 in
set_option maxRecDepth 100000 in
theorem c_P_place (l : Launch) (d : gD) (b : Nat) (Y : gYt) (F : gM) (S : gSt) (hW : gWT d Y F S)  : gMi l d b yX7_faultPlace cX7_faultPlace 1 .int 0 0 0 F [.ref (gO' Y 1)] (fun r F' => r = sV S 5 ∧ F' = F) := by
  refine gM_of2 rfl (nL := 1) (Nat.le_of_ble_eq_true rfl) ?_
  intro X hX hC; subst hX
  show gG X d b _ F 0 0 0 [some (.ref (gO' Y 1))] []
  have hM0 : gSm S S [] [] := gSm.rf
  have hK0 : gKp Y F F := gKp.rf
  refine g_aload_n hC dX7_faultPlace_0 rfl ?_
  refine g_get hC fl_X7_46 (hW.o 1 (by decide)) rfl dX7_faultPlace_1 ?_
  exact g_iret hC rfl ⟨rfl, rfl⟩ (by first | exact Nat.le_of_ble_eq_true rfl | omega | (simp only [gR]; omega)) (by first | exact Nat.le_of_ble_eq_true rfl | omega | (simp only [gR]; omega)) dX7_faultPlace_4
theorem dX7_isReady_0 : decode cX7_isReady 0 = .ok (.aload_n 0, 1) := by decide +kernel
theorem dX7_isReady_1 : decode cX7_isReady 1 = .ok (.getfield 49, 3) := by decide +kernel
theorem dX7_isReady_4 : decode cX7_isReady 4 = .ok (.ireturn, 1) := by decide +kernel
set_option maxHeartbeats 4000000 in
set_option maxRecDepth 100000 in
theorem c_P_ready (l : Launch) (d : gD) (b : Nat) (Y : gYt) (F : gM) (S : gSt) (hW : gWT d Y F S)  : gMi l d b yX7_isReady cX7_isReady 1 .boolean 0 0 0 F [.ref (gO' Y 1)] (fun r F' => r = sV S 6 ∧ F' = F) := by
  refine gM_of2 rfl (nL := 1) (Nat.le_of_ble_eq_true rfl) ?_
  intro X hX hC; subst hX
  show gG X d b _ F 0 0 0 [some (.ref (gO' Y 1))] []
  have hM0 : gSm S S [] [] := gSm.rf
  have hK0 : gKp Y F F := gKp.rf
  refine g_aload_n hC dX7_isReady_0 rfl ?_
  refine g_get hC fl_X7_49 (hW.o 1 (by decide)) rfl dX7_isReady_1 ?_
  exact g_iret hC (gnb (hW.bo 6 (by decide))) ⟨rfl, rfl⟩ (by first | exact Nat.le_of_ble_eq_true rfl | omega | (simp only [gR]; omega)) (by first | exact Nat.le_of_ble_eq_true rfl | omega | (simp only [gR]; omega)) dX7_isReady_4
theorem dX7_words_0 : decode cX7_words 0 = .ok (.aload_n 0, 1) := by decide +kernel
theorem dX7_words_1 : decode cX7_words 1 = .ok (.getfield 21, 3) := by decide +kernel
theorem dX7_words_4 : decode cX7_words 4 = .ok (.invokevirtual 67, 3) := by decide +kernel
theorem dX7_words_7 : decode cX7_words 7 = .ok (.ireturn, 1) := by decide +kernel
set_option maxHeartbeats 4000000 in
set_option maxRecDepth 100000 in
theorem c_P_words (l : Launch) (d : gD) (b : Nat) (Y : gYt) (F : gM) (S : gSt) (hW : gWT d Y F S)  : gMi l d b yX7_words cX7_words 1 .int 1 0 0 F [.ref (gO' Y 1)] (fun r F' => r = nI (sZ S 2) ∧ F' = F) := by
  refine gM_of2 rfl (nL := 1) (Nat.le_of_ble_eq_true rfl) ?_
  intro X hX hC; subst hX
  show gG X d b _ F 0 0 0 [some (.ref (gO' Y 1))] []
  have hM0 : gSm S S [] [] := gSm.rf
  have hK0 : gKp Y F F := gKp.rf
  refine g_aload_n hC dX7_words_0 rfl ?_
  refine g_get hC fl_X7_21 (hW.o 1 (by decide)) rfl dX7_words_1 ?_
  refine g_callVi (As := []) hC rfl (hW.r 2 (by decide)).1 (c_Ints_size X.la d b F _ _ _ _ _ _ (hW.r 2 (by decide))) cl_X7_67 rfl rfl (Nat.le_of_ble_eq_true rfl) (gFit_of (Nat.le_of_ble_eq_true rfl) (Nat.le_of_ble_eq_true rfl) (by first | exact Nat.le_of_ble_eq_true rfl | omega | (simp only [gR]; omega)) (by first | exact Nat.le_of_ble_eq_true rfl | omega | (simp only [gR]; omega))) dX7_words_4 (fun r1 F2 p3 => ?_)
  obtain ⟨rfl, eF2⟩ := p3; have eF2 := eF2.symm; subst eF2
  exact g_iret hC rfl ⟨rfl, rfl⟩ (by first | exact Nat.le_of_ble_eq_true rfl | omega | (simp only [gR]; omega)) (by first | exact Nat.le_of_ble_eq_true rfl | omega | (simp only [gR]; omega)) dX7_words_7
theorem dX7_emit_0 : decode cX7_emit 0 = .ok (.aload_n 0, 1) := by decide +kernel
theorem dX7_emit_1 : decode cX7_emit 1 = .ok (.getfield 15, 3) := by decide +kernel
theorem dX7_emit_4 : decode cX7_emit 4 = .ok (.iload_n 1, 1) := by decide +kernel
theorem dX7_emit_5 : decode cX7_emit 5 = .ok (.invokevirtual 56, 3) := by decide +kernel
theorem dX7_emit_8 : decode cX7_emit 8 = .ok (.aload_n 0, 1) := by decide +kernel
theorem dX7_emit_9 : decode cX7_emit 9 = .ok (.getfield 15, 3) := by decide +kernel
theorem dX7_emit_12 : decode cX7_emit 12 = .ok (.iload_n 2, 1) := by decide +kernel
theorem dX7_emit_13 : decode cX7_emit 13 = .ok (.invokevirtual 56, 3) := by decide +kernel
theorem dX7_emit_16 : decode cX7_emit 16 = .ok (.aload_n 0, 1) := by decide +kernel
theorem dX7_emit_17 : decode cX7_emit 17 = .ok (.getfield 15, 3) := by decide +kernel
theorem dX7_emit_20 : decode cX7_emit 20 = .ok (.invokevirtual 67, 3) := by decide +kernel
theorem dX7_emit_23 : decode cX7_emit 23 = .ok (.iconst 1, 1) := by decide +kernel
theorem dX7_emit_24 : decode cX7_emit 24 = .ok (.isub, 1) := by decide +kernel
theorem dX7_emit_25 : decode cX7_emit 25 = .ok (.ireturn, 1) := by decide +kernel
set_option maxHeartbeats 4000000 in
set_option maxRecDepth 100000 in
theorem c_P_emit (l : Launch) (d : gD) (b : Nat) (Y : gYt) (F : gM) (S : gSt) (hW : gWT d Y F S) (x y : Int32) (z : Nat) (hz : sZ S 1 = z) (hn : sN S 1 = 16) (hl : z < 14) : gMi l d b yX7_emit cX7_emit 3 .int 3 0 0 F [.ref (gO' Y 1), .int x, .int y] (fun r F' => ∃ S', gWT d Y F' S' ∧ gKp Y F F' ∧ gSm S S' [1] [] ∧ sZ S' 1 = z + 1 + 1 ∧ sN S' 1 = 16) := by
  refine gM_of2 rfl (nL := 3) (Nat.le_of_ble_eq_true rfl) ?_
  intro X hX hC; subst hX
  show gG X d b _ F 0 0 0 [some (.ref (gO' Y 1)), some (.int x), some (.int y)] []
  have hM0 : gSm S S [1] [] := gSm.rf
  have hK0 : gKp Y F F := gKp.rf
  refine g_aload_n hC dX7_emit_0 rfl ?_
  refine g_get hC fl_X7_15 (hW.o 1 (by decide)) rfl dX7_emit_1 ?_
  refine g_iload_n hC dX7_emit_4 rfl ?_
  have z4 : gAc (sN S 1) (sZ S 1) = 0 := gAc0 (by rw [hz, hn]; exact (by omega))
  have z5 : gAs (gmo 1) (sN S 1) (sZ S 1) = 0 := gAs0 (by rw [hz, hn]; exact (by omega))
  refine g_callVv (As := [.int x]) hC rfl (hW.r 1 (by decide)).1 (c_Ints_add X.la d b F _ _ _ _ _ _ (hW.r 1 (by decide)) x) cl_X7_56 rfl rfl (Nat.le_of_ble_eq_true rfl) (gFit_add (Nat.le_of_ble_eq_true rfl) (Nat.le_of_ble_eq_true rfl) z4 z5 (Nat.le_of_ble_eq_true rfl) (Nat.le_of_ble_eq_true rfl)) dX7_emit_5 (fun F2 p3 => ?_)
  refine g_kn (k2 := 0) (n2 := 0) (by rw [z4]) (by rw [z5]) ?_
  obtain ⟨S6, hW7, k8, s9, a10, -⟩ := wt_add hW (by decide) p3
  have a10 := a10 (by rw [hz]; exact Nat.lt_of_lt_of_le (by omega) (w_mo 1))
  have hM11 : gSm S S6 [1] [] := hM0.tr s9 _ _ rfl rfl
  have hK12 : gKp Y F F2 := hK0.tr k8
  have z13 : sZ S6 1 = (z + 1) := by rw [a10.1, hz]
  have z14 : sN S6 1 = 16 := by rw [a10.2.1, gAn0 (by rw [hz, hn]; exact (by omega)), hn]
  clear hz hn hM0 hK0 s9 k8 hW a10 z4 z5 p3
  refine g_aload_n hC dX7_emit_8 rfl ?_
  refine g_get hC fl_X7_15 (hW7.o 1 (by decide)) rfl dX7_emit_9 ?_
  refine g_iload_n hC dX7_emit_12 rfl ?_
  have z18 : gAc (sN S6 1) (sZ S6 1) = 0 := gAc0 (by rw [z13, z14]; exact (by omega))
  have z19 : gAs (gmo 1) (sN S6 1) (sZ S6 1) = 0 := gAs0 (by rw [z13, z14]; exact (by omega))
  refine g_callVv (As := [.int y]) hC rfl (hW7.r 1 (by decide)).1 (c_Ints_add X.la d b F2 _ _ _ _ _ _ (hW7.r 1 (by decide)) y) cl_X7_56 rfl rfl (Nat.le_of_ble_eq_true rfl) (gFit_add (Nat.le_of_ble_eq_true rfl) (Nat.le_of_ble_eq_true rfl) z18 z19 (Nat.le_of_ble_eq_true rfl) (Nat.le_of_ble_eq_true rfl)) dX7_emit_13 (fun F16 p17 => ?_)
  refine g_kn (k2 := 0) (n2 := 0) (by rw [z18]) (by rw [z19]) ?_
  obtain ⟨S20, hW21, k22, s23, a24, -⟩ := wt_add hW7 (by decide) p17
  have a24 := a24 (by rw [z13]; exact Nat.lt_of_lt_of_le (by omega) (w_mo 1))
  have hM25 : gSm S S20 [1] [] := hM11.tr s23 _ _ rfl rfl
  have hK26 : gKp Y F F16 := hK12.tr k22
  have z27 : sZ S20 1 = ((z + 1) + 1) := by rw [a24.1, z13]
  have z28 : sN S20 1 = 16 := by rw [a24.2.1, gAn0 (by rw [z13, z14]; exact (by omega)), z14]
  clear z13 z14 hM11 hK12 s23 k22 hW7 a24 z18 z19 p17
  refine g_aload_n hC dX7_emit_16 rfl ?_
  refine g_get hC fl_X7_15 (hW21.o 1 (by decide)) rfl dX7_emit_17 ?_
  refine g_callVi (As := []) hC rfl (hW21.r 1 (by decide)).1 (c_Ints_size X.la d b F16 _ _ _ _ _ _ (hW21.r 1 (by decide))) cl_X7_67 rfl rfl (Nat.le_of_ble_eq_true rfl) (gFit_of (Nat.le_of_ble_eq_true rfl) (Nat.le_of_ble_eq_true rfl) (by first | exact Nat.le_of_ble_eq_true rfl | omega | (simp only [gR]; omega)) (by first | exact Nat.le_of_ble_eq_true rfl | omega | (simp only [gR]; omega))) dX7_emit_20 (fun r29 F30 p31 => ?_)
  obtain ⟨rfl, eF30⟩ := p31; have eF30 := eF30.symm; subst eF30
  refine g_iconst (v := 1) hC dX7_emit_23 rfl ?_
  refine g_isub hC dX7_emit_24 ?_
  refine g_vi (fun x32 ex32 => ?_)
  exact g_iret hC rfl ⟨S20, hW21, hK26, hM25, z27, z28⟩ (by first | exact Nat.le_of_ble_eq_true rfl | omega | (simp only [gR]; omega)) (by first | exact Nat.le_of_ble_eq_true rfl | omega | (simp only [gR]; omega)) dX7_emit_25
theorem dX7_clear_0 : decode cX7_clear 0 = .ok (.aload_n 0, 1) := by decide +kernel
theorem dX7_clear_1 : decode cX7_clear 1 = .ok (.getfield 15, 3) := by decide +kernel
theorem dX7_clear_4 : decode cX7_clear 4 = .ok (.iconst 0, 1) := by decide +kernel
theorem dX7_clear_5 : decode cX7_clear 5 = .ok (.invokevirtual 53, 3) := by decide +kernel
theorem dX7_clear_8 : decode cX7_clear 8 = .ok (.aload_n 0, 1) := by decide +kernel
theorem dX7_clear_9 : decode cX7_clear 9 = .ok (.getfield 21, 3) := by decide +kernel
theorem dX7_clear_12 : decode cX7_clear 12 = .ok (.iconst 0, 1) := by decide +kernel
theorem dX7_clear_13 : decode cX7_clear 13 = .ok (.invokevirtual 53, 3) := by decide +kernel
theorem dX7_clear_16 : decode cX7_clear 16 = .ok (.aload_n 0, 1) := by decide +kernel
theorem dX7_clear_17 : decode cX7_clear 17 = .ok (.getfield 24, 3) := by decide +kernel
theorem dX7_clear_20 : decode cX7_clear 20 = .ok (.iconst 0, 1) := by decide +kernel
theorem dX7_clear_21 : decode cX7_clear 21 = .ok (.invokevirtual 53, 3) := by decide +kernel
theorem dX7_clear_24 : decode cX7_clear 24 = .ok (.aload_n 0, 1) := by decide +kernel
theorem dX7_clear_25 : decode cX7_clear 25 = .ok (.getfield 27, 3) := by decide +kernel
theorem dX7_clear_28 : decode cX7_clear 28 = .ok (.iconst 0, 1) := by decide +kernel
theorem dX7_clear_29 : decode cX7_clear 29 = .ok (.invokevirtual 53, 3) := by decide +kernel
theorem dX7_clear_32 : decode cX7_clear 32 = .ok (.aload_n 0, 1) := by decide +kernel
theorem dX7_clear_33 : decode cX7_clear 33 = .ok (.getfield 30, 3) := by decide +kernel
theorem dX7_clear_36 : decode cX7_clear 36 = .ok (.iconst 0, 1) := by decide +kernel
theorem dX7_clear_37 : decode cX7_clear 37 = .ok (.invokevirtual 53, 3) := by decide +kernel
theorem dX7_clear_40 : decode cX7_clear 40 = .ok (.aload_n 0, 1) := by decide +kernel
theorem dX7_clear_41 : decode cX7_clear 41 = .ok (.getfield 33, 3) := by decide +kernel
theorem dX7_clear_44 : decode cX7_clear 44 = .ok (.iconst 0, 1) := by decide +kernel
theorem dX7_clear_45 : decode cX7_clear 45 = .ok (.invokevirtual 53, 3) := by decide +kernel
theorem dX7_clear_48 : decode cX7_clear 48 = .ok (.iconst 0, 1) := by decide +kernel
theorem dX7_clear_49 : decode cX7_clear 49 = .ok (.istore_n 2, 1) := by decide +kernel
theorem dX7_clear_50 : decode cX7_clear 50 = .ok (.iload_n 2, 1) := by decide +kernel
theorem dX7_clear_51 : decode cX7_clear 51 = .ok (.bipush 100, 2) := by decide +kernel
theorem dX7_clear_53 : decode cX7_clear 53 = .ok (.if_icmp .ge 17, 3) := by decide +kernel
theorem dX7_clear_56 : decode cX7_clear 56 = .ok (.aload_n 0, 1) := by decide +kernel
theorem dX7_clear_57 : decode cX7_clear 57 = .ok (.getfield 21, 3) := by decide +kernel
theorem dX7_clear_60 : decode cX7_clear 60 = .ok (.iconst 0, 1) := by decide +kernel
theorem dX7_clear_61 : decode cX7_clear 61 = .ok (.invokevirtual 56, 3) := by decide +kernel
theorem dX7_clear_64 : decode cX7_clear 64 = .ok (.iinc 2 1, 3) := by decide +kernel
theorem dX7_clear_67 : decode cX7_clear 67 = .ok (.goto (-17), 3) := by decide +kernel
theorem dX7_clear_70 : decode cX7_clear 70 = .ok (.aload_n 0, 1) := by decide +kernel
theorem dX7_clear_71 : decode cX7_clear 71 = .ok (.iconst 0, 1) := by decide +kernel
theorem dX7_clear_72 : decode cX7_clear 72 = .ok (.iconst 0, 1) := by decide +kernel
theorem dX7_clear_73 : decode cX7_clear 73 = .ok (.invokevirtual 59, 3) := by decide +kernel
theorem dX7_clear_76 : decode cX7_clear 76 = .ok (.pop, 1) := by decide +kernel
theorem dX7_clear_77 : decode cX7_clear 77 = .ok (.aload_n 0, 1) := by decide +kernel
theorem dX7_clear_78 : decode cX7_clear 78 = .ok (.iload_n 1, 1) := by decide +kernel
theorem dX7_clear_79 : decode cX7_clear 79 = .ok (.putfield 36, 3) := by decide +kernel
theorem dX7_clear_82 : decode cX7_clear 82 = .ok (.aload_n 0, 1) := by decide +kernel
theorem dX7_clear_83 : decode cX7_clear 83 = .ok (.iconst (-1), 1) := by decide +kernel
theorem dX7_clear_84 : decode cX7_clear 84 = .ok (.putfield 40, 3) := by decide +kernel
theorem dX7_clear_87 : decode cX7_clear 87 = .ok (.aload_n 0, 1) := by decide +kernel
theorem dX7_clear_88 : decode cX7_clear 88 = .ok (.iconst 0, 1) := by decide +kernel
theorem dX7_clear_89 : decode cX7_clear 89 = .ok (.putfield 43, 3) := by decide +kernel
theorem dX7_clear_92 : decode cX7_clear 92 = .ok (.aload_n 0, 1) := by decide +kernel
theorem dX7_clear_93 : decode cX7_clear 93 = .ok (.iconst 0, 1) := by decide +kernel
theorem dX7_clear_94 : decode cX7_clear 94 = .ok (.putfield 46, 3) := by decide +kernel
theorem dX7_clear_97 : decode cX7_clear 97 = .ok (.aload_n 0, 1) := by decide +kernel
theorem dX7_clear_98 : decode cX7_clear 98 = .ok (.iconst 0, 1) := by decide +kernel
theorem dX7_clear_99 : decode cX7_clear 99 = .ok (.putfield 49, 3) := by decide +kernel
theorem dX7_clear_102 : decode cX7_clear 102 = .ok (.return_, 1) := by decide +kernel
set_option maxHeartbeats 4000000 in
set_option maxRecDepth 100000 in
theorem c_P_clear (l : Launch) (d : gD) (b : Nat) (Y : gYt) (F : gM) (S : gSt) (hW : gWT d Y F S) (words : Int32) (hz1 : sZ S 1 = 0) (hn1 : sN S 1 = 16) (hz2 : sZ S 2 = 0) (hn2 : sN S 2 = 16) (hz3 : sZ S 3 = 0) (hn3 : sN S 3 = 16) (hz4 : sZ S 4 = 0) (hn4 : sN S 4 = 16) (hz5 : sZ S 5 = 0) (hn5 : sN S 5 = 16) (hz6 : sZ S 6 = 0) (hn6 : sN S 6 = 16) : gMv l d b yX7_clear cX7_clear 3 4 100 25600 F [.ref (gO' Y 1), .int words] (fun F' => ∃ S', gWT d Y F' S' ∧ gKp Y F F' ∧ gSm S S' [1, 2, 3, 4, 5, 6] [2, 3, 4, 5, 6] ∧ sZ S' 2 = 100 ∧ sZ S' 3 = 0 ∧ sZ S' 5 = 0 ∧ sV S' 3 = (-1) ∧ sV S' 4 = 0 ∧ sV S' 5 = 0 ∧ sV S' 6 = 0) := by
  refine gM_of2 rfl (nL := 3) (Nat.le_of_ble_eq_true rfl) ?_
  intro X hX hC; subst hX
  show gG X d b _ F 0 0 0 [some (.ref (gO' Y 1)), some (.int words), none] []
  have hM0 : gSm S S [1, 2, 3, 4, 5, 6] [2, 3, 4, 5, 6] := gSm.rf
  have hK0 : gKp Y F F := gKp.rf
  refine g_aload_n hC dX7_clear_0 rfl ?_
  refine g_get hC fl_X7_15 (hW.o 1 (by decide)) rfl dX7_clear_1 ?_
  refine g_iconst (v := 0) hC dX7_clear_4 rfl ?_
  refine g_callVv (As := [.int 0]) hC rfl (hW.r 1 (by decide)).1 (c_Ints_cut X.la d b F _ _ _ _ _ _ (hW.r 1 (by decide)) 0) cl_X7_53 rfl rfl (Nat.le_of_ble_eq_true rfl) (gFit_of (Nat.le_of_ble_eq_true rfl) (Nat.le_of_ble_eq_true rfl) (by first | exact Nat.le_of_ble_eq_true rfl | omega | (simp only [gR]; omega)) (by first | exact Nat.le_of_ble_eq_true rfl | omega | (simp only [gR]; omega))) dX7_clear_5 (fun F2 p3 => ?_)
  obtain ⟨S4, hW5, k6, s7, u8, u9, u10, u11, u12⟩ := wt_cut hW (by decide) p3
  have hM13 : gSm S S4 [1, 2, 3, 4, 5, 6] [2, 3, 4, 5, 6] := hM0.tr s7 _ _ rfl rfl
  have hK14 : gKp Y F F2 := hK0.tr k6
  have z15 : sZ S4 2 = 0 := (s7.z 2 (by decide)).trans hz2
  have z16 : sN S4 2 = 16 := (s7.n 2 (by decide)).trans hn2
  have z17 : sZ S4 3 = 0 := (s7.z 3 (by decide)).trans hz3
  have z18 : sN S4 3 = 16 := (s7.n 3 (by decide)).trans hn3
  have z19 : sZ S4 4 = 0 := (s7.z 4 (by decide)).trans hz4
  have z20 : sN S4 4 = 16 := (s7.n 4 (by decide)).trans hn4
  have z21 : sZ S4 5 = 0 := (s7.z 5 (by decide)).trans hz5
  have z22 : sN S4 5 = 16 := (s7.n 5 (by decide)).trans hn5
  have z23 : sZ S4 6 = 0 := (s7.z 6 (by decide)).trans hz6
  have z24 : sN S4 6 = 16 := (s7.n 6 (by decide)).trans hn6
  have z25 : sZ S4 1 = 0 := Nat.le_zero.mp (Nat.le_trans u12 (Nat.le_of_eq hz1))
  have z26 : sN S4 1 = 16 := u8.trans hn1
  clear hz1 hn1 hz2 hn2 hz3 hn3 hz4 hn4 hz5 hn5 hz6 hn6 hM0 hK0 s7 k6 hW p3 u8 u9 u10 u11 u12
  refine g_aload_n hC dX7_clear_8 rfl ?_
  refine g_get hC fl_X7_21 (hW5.o 1 (by decide)) rfl dX7_clear_9 ?_
  refine g_iconst (v := 0) hC dX7_clear_12 rfl ?_
  refine g_callVv (As := [.int 0]) hC rfl (hW5.r 2 (by decide)).1 (c_Ints_cut X.la d b F2 _ _ _ _ _ _ (hW5.r 2 (by decide)) 0) cl_X7_53 rfl rfl (Nat.le_of_ble_eq_true rfl) (gFit_of (Nat.le_of_ble_eq_true rfl) (Nat.le_of_ble_eq_true rfl) (by first | exact Nat.le_of_ble_eq_true rfl | omega | (simp only [gR]; omega)) (by first | exact Nat.le_of_ble_eq_true rfl | omega | (simp only [gR]; omega))) dX7_clear_13 (fun F28 p29 => ?_)
  obtain ⟨S30, hW31, k32, s33, u34, u35, u36, u37, u38⟩ := wt_cut hW5 (by decide) p29
  have hM39 : gSm S S30 [1, 2, 3, 4, 5, 6] [2, 3, 4, 5, 6] := hM13.tr s33 _ _ rfl rfl
  have hK40 : gKp Y F F28 := hK14.tr k32
  have z41 : sZ S30 3 = 0 := (s33.z 3 (by decide)).trans z17
  have z42 : sN S30 3 = 16 := (s33.n 3 (by decide)).trans z18
  have z43 : sZ S30 4 = 0 := (s33.z 4 (by decide)).trans z19
  have z44 : sN S30 4 = 16 := (s33.n 4 (by decide)).trans z20
  have z45 : sZ S30 5 = 0 := (s33.z 5 (by decide)).trans z21
  have z46 : sN S30 5 = 16 := (s33.n 5 (by decide)).trans z22
  have z47 : sZ S30 6 = 0 := (s33.z 6 (by decide)).trans z23
  have z48 : sN S30 6 = 16 := (s33.n 6 (by decide)).trans z24
  have z49 : sZ S30 1 = 0 := (s33.z 1 (by decide)).trans z25
  have z50 : sN S30 1 = 16 := (s33.n 1 (by decide)).trans z26
  have z51 : sZ S30 2 = 0 := Nat.le_zero.mp (Nat.le_trans u38 (Nat.le_of_eq z15))
  have z52 : sN S30 2 = 16 := u34.trans z16
  clear z15 z16 z17 z18 z19 z20 z21 z22 z23 z24 z25 z26 hM13 hK14 s33 k32 hW5 p29 u34 u35 u36 u37 u38
  refine g_aload_n hC dX7_clear_16 rfl ?_
  refine g_get hC fl_X7_24 (hW31.o 1 (by decide)) rfl dX7_clear_17 ?_
  refine g_iconst (v := 0) hC dX7_clear_20 rfl ?_
  refine g_callVv (As := [.int 0]) hC rfl (hW31.r 3 (by decide)).1 (c_Ints_cut X.la d b F28 _ _ _ _ _ _ (hW31.r 3 (by decide)) 0) cl_X7_53 rfl rfl (Nat.le_of_ble_eq_true rfl) (gFit_of (Nat.le_of_ble_eq_true rfl) (Nat.le_of_ble_eq_true rfl) (by first | exact Nat.le_of_ble_eq_true rfl | omega | (simp only [gR]; omega)) (by first | exact Nat.le_of_ble_eq_true rfl | omega | (simp only [gR]; omega))) dX7_clear_21 (fun F54 p55 => ?_)
  obtain ⟨S56, hW57, k58, s59, u60, u61, u62, u63, u64⟩ := wt_cut hW31 (by decide) p55
  have hM65 : gSm S S56 [1, 2, 3, 4, 5, 6] [2, 3, 4, 5, 6] := hM39.tr s59 _ _ rfl rfl
  have hK66 : gKp Y F F54 := hK40.tr k58
  have z67 : sZ S56 4 = 0 := (s59.z 4 (by decide)).trans z43
  have z68 : sN S56 4 = 16 := (s59.n 4 (by decide)).trans z44
  have z69 : sZ S56 5 = 0 := (s59.z 5 (by decide)).trans z45
  have z70 : sN S56 5 = 16 := (s59.n 5 (by decide)).trans z46
  have z71 : sZ S56 6 = 0 := (s59.z 6 (by decide)).trans z47
  have z72 : sN S56 6 = 16 := (s59.n 6 (by decide)).trans z48
  have z73 : sZ S56 1 = 0 := (s59.z 1 (by decide)).trans z49
  have z74 : sN S56 1 = 16 := (s59.n 1 (by decide)).trans z50
  have z75 : sZ S56 2 = 0 := (s59.z 2 (by decide)).trans z51
  have z76 : sN S56 2 = 16 := (s59.n 2 (by decide)).trans z52
  have z77 : sZ S56 3 = 0 := Nat.le_zero.mp (Nat.le_trans u64 (Nat.le_of_eq z41))
  have z78 : sN S56 3 = 16 := u60.trans z42
  clear z41 z42 z43 z44 z45 z46 z47 z48 z49 z50 z51 z52 hM39 hK40 s59 k58 hW31 p55 u60 u61 u62 u63 u64
  refine g_aload_n hC dX7_clear_24 rfl ?_
  refine g_get hC fl_X7_27 (hW57.o 1 (by decide)) rfl dX7_clear_25 ?_
  refine g_iconst (v := 0) hC dX7_clear_28 rfl ?_
  refine g_callVv (As := [.int 0]) hC rfl (hW57.r 4 (by decide)).1 (c_Ints_cut X.la d b F54 _ _ _ _ _ _ (hW57.r 4 (by decide)) 0) cl_X7_53 rfl rfl (Nat.le_of_ble_eq_true rfl) (gFit_of (Nat.le_of_ble_eq_true rfl) (Nat.le_of_ble_eq_true rfl) (by first | exact Nat.le_of_ble_eq_true rfl | omega | (simp only [gR]; omega)) (by first | exact Nat.le_of_ble_eq_true rfl | omega | (simp only [gR]; omega))) dX7_clear_29 (fun F80 p81 => ?_)
  obtain ⟨S82, hW83, k84, s85, u86, u87, u88, u89, u90⟩ := wt_cut hW57 (by decide) p81
  have hM91 : gSm S S82 [1, 2, 3, 4, 5, 6] [2, 3, 4, 5, 6] := hM65.tr s85 _ _ rfl rfl
  have hK92 : gKp Y F F80 := hK66.tr k84
  have z93 : sZ S82 5 = 0 := (s85.z 5 (by decide)).trans z69
  have z94 : sN S82 5 = 16 := (s85.n 5 (by decide)).trans z70
  have z95 : sZ S82 6 = 0 := (s85.z 6 (by decide)).trans z71
  have z96 : sN S82 6 = 16 := (s85.n 6 (by decide)).trans z72
  have z97 : sZ S82 1 = 0 := (s85.z 1 (by decide)).trans z73
  have z98 : sN S82 1 = 16 := (s85.n 1 (by decide)).trans z74
  have z99 : sZ S82 2 = 0 := (s85.z 2 (by decide)).trans z75
  have z100 : sN S82 2 = 16 := (s85.n 2 (by decide)).trans z76
  have z101 : sZ S82 3 = 0 := (s85.z 3 (by decide)).trans z77
  have z102 : sN S82 3 = 16 := (s85.n 3 (by decide)).trans z78
  have z103 : sZ S82 4 = 0 := Nat.le_zero.mp (Nat.le_trans u90 (Nat.le_of_eq z67))
  have z104 : sN S82 4 = 16 := u86.trans z68
  clear z67 z68 z69 z70 z71 z72 z73 z74 z75 z76 z77 z78 hM65 hK66 s85 k84 hW57 p81 u86 u87 u88 u89 u90
  refine g_aload_n hC dX7_clear_32 rfl ?_
  refine g_get hC fl_X7_30 (hW83.o 1 (by decide)) rfl dX7_clear_33 ?_
  refine g_iconst (v := 0) hC dX7_clear_36 rfl ?_
  refine g_callVv (As := [.int 0]) hC rfl (hW83.r 5 (by decide)).1 (c_Ints_cut X.la d b F80 _ _ _ _ _ _ (hW83.r 5 (by decide)) 0) cl_X7_53 rfl rfl (Nat.le_of_ble_eq_true rfl) (gFit_of (Nat.le_of_ble_eq_true rfl) (Nat.le_of_ble_eq_true rfl) (by first | exact Nat.le_of_ble_eq_true rfl | omega | (simp only [gR]; omega)) (by first | exact Nat.le_of_ble_eq_true rfl | omega | (simp only [gR]; omega))) dX7_clear_37 (fun F106 p107 => ?_)
  obtain ⟨S108, hW109, k110, s111, u112, u113, u114, u115, u116⟩ := wt_cut hW83 (by decide) p107
  have hM117 : gSm S S108 [1, 2, 3, 4, 5, 6] [2, 3, 4, 5, 6] := hM91.tr s111 _ _ rfl rfl
  have hK118 : gKp Y F F106 := hK92.tr k110
  have z119 : sZ S108 6 = 0 := (s111.z 6 (by decide)).trans z95
  have z120 : sN S108 6 = 16 := (s111.n 6 (by decide)).trans z96
  have z121 : sZ S108 1 = 0 := (s111.z 1 (by decide)).trans z97
  have z122 : sN S108 1 = 16 := (s111.n 1 (by decide)).trans z98
  have z123 : sZ S108 2 = 0 := (s111.z 2 (by decide)).trans z99
  have z124 : sN S108 2 = 16 := (s111.n 2 (by decide)).trans z100
  have z125 : sZ S108 3 = 0 := (s111.z 3 (by decide)).trans z101
  have z126 : sN S108 3 = 16 := (s111.n 3 (by decide)).trans z102
  have z127 : sZ S108 4 = 0 := (s111.z 4 (by decide)).trans z103
  have z128 : sN S108 4 = 16 := (s111.n 4 (by decide)).trans z104
  have z129 : sZ S108 5 = 0 := Nat.le_zero.mp (Nat.le_trans u116 (Nat.le_of_eq z93))
  have z130 : sN S108 5 = 16 := u112.trans z94
  clear z93 z94 z95 z96 z97 z98 z99 z100 z101 z102 z103 z104 hM91 hK92 s111 k110 hW83 p107 u112 u113 u114 u115 u116
  refine g_aload_n hC dX7_clear_40 rfl ?_
  refine g_get hC fl_X7_33 (hW109.o 1 (by decide)) rfl dX7_clear_41 ?_
  refine g_iconst (v := 0) hC dX7_clear_44 rfl ?_
  refine g_callVv (As := [.int 0]) hC rfl (hW109.r 6 (by decide)).1 (c_Ints_cut X.la d b F106 _ _ _ _ _ _ (hW109.r 6 (by decide)) 0) cl_X7_53 rfl rfl (Nat.le_of_ble_eq_true rfl) (gFit_of (Nat.le_of_ble_eq_true rfl) (Nat.le_of_ble_eq_true rfl) (by first | exact Nat.le_of_ble_eq_true rfl | omega | (simp only [gR]; omega)) (by first | exact Nat.le_of_ble_eq_true rfl | omega | (simp only [gR]; omega))) dX7_clear_45 (fun F132 p133 => ?_)
  obtain ⟨S134, hW135, k136, s137, u138, u139, u140, u141, u142⟩ := wt_cut hW109 (by decide) p133
  have hM143 : gSm S S134 [1, 2, 3, 4, 5, 6] [2, 3, 4, 5, 6] := hM117.tr s137 _ _ rfl rfl
  have hK144 : gKp Y F F132 := hK118.tr k136
  have z145 : sZ S134 1 = 0 := (s137.z 1 (by decide)).trans z121
  have z146 : sN S134 1 = 16 := (s137.n 1 (by decide)).trans z122
  have z147 : sZ S134 2 = 0 := (s137.z 2 (by decide)).trans z123
  have z148 : sN S134 2 = 16 := (s137.n 2 (by decide)).trans z124
  have z149 : sZ S134 3 = 0 := (s137.z 3 (by decide)).trans z125
  have z150 : sN S134 3 = 16 := (s137.n 3 (by decide)).trans z126
  have z151 : sZ S134 4 = 0 := (s137.z 4 (by decide)).trans z127
  have z152 : sN S134 4 = 16 := (s137.n 4 (by decide)).trans z128
  have z153 : sZ S134 5 = 0 := (s137.z 5 (by decide)).trans z129
  have z154 : sN S134 5 = 16 := (s137.n 5 (by decide)).trans z130
  have z155 : sZ S134 6 = 0 := Nat.le_zero.mp (Nat.le_trans u142 (Nat.le_of_eq z119))
  have z156 : sN S134 6 = 16 := u138.trans z120
  clear z119 z120 z121 z122 z123 z124 z125 z126 z127 z128 z129 z130 hM117 hK118 s137 k136 hW109 p133 u138 u139 u140 u141 u142
  refine g_iconst (v := 0) hC dX7_clear_48 rfl ?_
  refine g_istore_n (lv' := [some (.ref (gO' Y 1)), some (.int words), some (.int 0)]) hC dX7_clear_49 (Nat.le_of_ble_eq_true rfl) rfl rfl ?_
  have LOOP : ∀ (m i : Nat) (F1 : gM) (S1 : gSt), m + i = 100 → gWT d Y F1 S1 → gKp Y F F1 → gSm S S1 [1, 2, 3, 4, 5, 6] [2, 3, 4, 5, 6] → sZ S1 2 = i → sN S1 2 ≤ 256 → sZ S1 1 = 0 → sN S1 1 = 16 → sZ S1 3 = 0 → sN S1 3 = 16 → sZ S1 5 = 0 → sN S1 5 = 16 → gG X d b (MQ X.be (va_Qv (fun F' => ∃ S', gWT d Y F' S' ∧ gKp Y F F' ∧ gSm S S' [1, 2, 3, 4, 5, 6] [2, 3, 4, 5, 6] ∧ sZ S' 2 = 100 ∧ sZ S' 3 = 0 ∧ sZ S' 5 = 0 ∧ sV S' 3 = (-1) ∧ sV S' 4 = 0 ∧ sV S' 5 = 0 ∧ sV S' 6 = 0) (gB d b) (fun q => b ≤ q)) X.ar X.st 100 25600 (fun q => b ≤ q)) F1 i (256 * i) 50 [some (.ref (gO' Y 1)), some (.int words), some (.int (nI i))] [] := by
    intro m
    induction m with
    | zero =>
      intro i F1 S1 hmi hW1 hK1 hM1 hz2 hn2 hz1 hn1 hz3 hn3 hz5 hn5
      refine g_iload_n hC dX7_clear_50 rfl ?_
      refine g_bipush (v := 100) hC dX7_clear_51 rfl ?_
      refine g_icmp_ge (tgt := 70) hC dX7_clear_53 (by decide) (fun c157 => ?_) (fun c157 => ?_)
      · have hi : i = 100 := by omega
        subst hi
        refine g_aload_n hC dX7_clear_70 rfl ?_
        refine g_iconst (v := 0) hC dX7_clear_71 rfl ?_
        refine g_iconst (v := 0) hC dX7_clear_72 rfl ?_
        refine g_callVi (As := [.int 0, .int 0]) hC rfl (hW1.o 1 (by decide)) (c_P_emit X.la d b Y F1 S1 hW1 0 0 0 hz1 hn1 (by decide)) cl_X7_59 rfl rfl (Nat.le_of_ble_eq_true rfl) (gFit_of (Nat.le_of_ble_eq_true rfl) (Nat.le_of_ble_eq_true rfl) (by first | exact Nat.le_of_ble_eq_true rfl | omega | (simp only [gR]; omega)) (by first | exact Nat.le_of_ble_eq_true rfl | omega | (simp only [gR]; omega))) dX7_clear_73 (fun r160 F158 p159 => ?_)
        obtain ⟨S161, hW162, k163, s164, y165, y166⟩ := p159
        have hM167 : gSm S S161 [1, 2, 3, 4, 5, 6] [2, 3, 4, 5, 6] := hM1.tr s164 _ _ rfl rfl
        have hK168 : gKp Y F F158 := hK1.tr k163
        have z169 : sZ S161 3 = 0 := (s164.z 3 (by decide)).trans hz3
        have z170 : sN S161 3 = 16 := (s164.n 3 (by decide)).trans hn3
        have z171 : sZ S161 5 = 0 := (s164.z 5 (by decide)).trans hz5
        have z172 : sN S161 5 = 16 := (s164.n 5 (by decide)).trans hn5
        have z173 : sZ S161 2 = 100 := (s164.z 2 (by decide)).trans hz2
        have z174 : sN S161 2 = (sN S1 2) := (s164.n 2 (by decide)).trans rfl
        clear hz1 hn1 hz3 hn3 hz5 hn5 hz2 hM1 hK1 s164 k163 hW1
        refine g_pop hC dX7_clear_76 rfl ?_
        refine g_aload_n hC dX7_clear_77 rfl ?_
        refine g_iload_n hC dX7_clear_78 rfl ?_
        refine g_put hC fl_X7_36 (hW162.o 1 (by decide)) rfl rfl (Nat.le_of_ble_eq_true rfl) dX7_clear_79 ?_
        refine g_vF (fun F175 hF175 => ?_)
        obtain ⟨hW177, k178⟩ := gWT.put (k := 2) (x := words) hW162 (i := 1) (by decide) hF175 rfl gsame_2 (fun q => absurd q (by decide))
        obtain ⟨S176, hS176⟩ : ∃ z, z = uV S161 2 words := ⟨_, rfl⟩
        rw [← hS176] at hW177
        have s179 : gSm S161 S176 [] [2] := by rw [hS176]; exact gSm_uV
        have hM180 : gSm S S176 [1, 2, 3, 4, 5, 6] [2, 3, 4, 5, 6] := hM167.tr s179 _ _ rfl rfl
        have hK181 : gKp Y F F175 := hK168.tr k178
        have z182 : sZ S176 3 = 0 := (s179.z 3 (by decide)).trans z169
        have z183 : sN S176 3 = 16 := (s179.n 3 (by decide)).trans z170
        have z184 : sZ S176 5 = 0 := (s179.z 5 (by decide)).trans z171
        have z185 : sN S176 5 = 16 := (s179.n 5 (by decide)).trans z172
        have z186 : sZ S176 2 = 100 := (s179.z 2 (by decide)).trans z173
        have z187 : sN S176 2 = (sN S1 2) := (s179.n 2 (by decide)).trans z174
        have z188 : sZ S176 1 = (0 + 1 + 1) := (s179.z 1 (by decide)).trans y165
        have z189 : sN S176 1 = 16 := (s179.n 1 (by decide)).trans y166
        have z190 : sV S176 2 = words := by rw [hS176]; exact uV_self
        clear z169 z170 z171 z172 z173 z174 y165 y166 hM167 hK168 s179 k178 hW162
        refine g_aload_n hC dX7_clear_82 rfl ?_
        refine g_iconst (v := (-1)) hC dX7_clear_83 rfl ?_
        refine g_put hC fl_X7_40 (hW177.o 1 (by decide)) rfl rfl (Nat.le_of_ble_eq_true rfl) dX7_clear_84 ?_
        refine g_vF (fun F191 hF191 => ?_)
        obtain ⟨hW193, k194⟩ := gWT.put (k := 3) (x := (-1)) hW177 (i := 1) (by decide) hF191 rfl gsame_3 (fun q => absurd q (by decide))
        obtain ⟨S192, hS192⟩ : ∃ z, z = uV S176 3 (-1) := ⟨_, rfl⟩
        rw [← hS192] at hW193
        have s195 : gSm S176 S192 [] [3] := by rw [hS192]; exact gSm_uV
        have hM196 : gSm S S192 [1, 2, 3, 4, 5, 6] [2, 3, 4, 5, 6] := hM180.tr s195 _ _ rfl rfl
        have hK197 : gKp Y F F191 := hK181.tr k194
        have z198 : sZ S192 3 = 0 := (s195.z 3 (by decide)).trans z182
        have z199 : sN S192 3 = 16 := (s195.n 3 (by decide)).trans z183
        have z200 : sZ S192 5 = 0 := (s195.z 5 (by decide)).trans z184
        have z201 : sN S192 5 = 16 := (s195.n 5 (by decide)).trans z185
        have z202 : sZ S192 2 = 100 := (s195.z 2 (by decide)).trans z186
        have z203 : sN S192 2 = (sN S1 2) := (s195.n 2 (by decide)).trans z187
        have z204 : sZ S192 1 = (0 + 1 + 1) := (s195.z 1 (by decide)).trans z188
        have z205 : sN S192 1 = 16 := (s195.n 1 (by decide)).trans z189
        have z206 : sV S192 2 = words := (s195.v 2 (by decide)).trans z190
        have z207 : sV S192 3 = (-1) := by rw [hS192]; exact uV_self
        clear z182 z183 z184 z185 z186 z187 z188 z189 z190 hM180 hK181 s195 k194 hW177
        refine g_aload_n hC dX7_clear_87 rfl ?_
        refine g_iconst (v := 0) hC dX7_clear_88 rfl ?_
        refine g_put hC fl_X7_43 (hW193.o 1 (by decide)) rfl rfl (Nat.le_of_ble_eq_true rfl) dX7_clear_89 ?_
        refine g_vF (fun F208 hF208 => ?_)
        obtain ⟨hW210, k211⟩ := gWT.put (k := 4) (x := 0) hW193 (i := 1) (by decide) hF208 rfl gsame_4 (fun q => absurd q (by decide))
        obtain ⟨S209, hS209⟩ : ∃ z, z = uV S192 4 0 := ⟨_, rfl⟩
        rw [← hS209] at hW210
        have s212 : gSm S192 S209 [] [4] := by rw [hS209]; exact gSm_uV
        have hM213 : gSm S S209 [1, 2, 3, 4, 5, 6] [2, 3, 4, 5, 6] := hM196.tr s212 _ _ rfl rfl
        have hK214 : gKp Y F F208 := hK197.tr k211
        have z215 : sZ S209 3 = 0 := (s212.z 3 (by decide)).trans z198
        have z216 : sN S209 3 = 16 := (s212.n 3 (by decide)).trans z199
        have z217 : sZ S209 5 = 0 := (s212.z 5 (by decide)).trans z200
        have z218 : sN S209 5 = 16 := (s212.n 5 (by decide)).trans z201
        have z219 : sZ S209 2 = 100 := (s212.z 2 (by decide)).trans z202
        have z220 : sN S209 2 = (sN S1 2) := (s212.n 2 (by decide)).trans z203
        have z221 : sZ S209 1 = (0 + 1 + 1) := (s212.z 1 (by decide)).trans z204
        have z222 : sN S209 1 = 16 := (s212.n 1 (by decide)).trans z205
        have z223 : sV S209 2 = words := (s212.v 2 (by decide)).trans z206
        have z224 : sV S209 3 = (-1) := (s212.v 3 (by decide)).trans z207
        have z225 : sV S209 4 = 0 := by rw [hS209]; exact uV_self
        clear z198 z199 z200 z201 z202 z203 z204 z205 z206 z207 hM196 hK197 s212 k211 hW193
        refine g_aload_n hC dX7_clear_92 rfl ?_
        refine g_iconst (v := 0) hC dX7_clear_93 rfl ?_
        refine g_put hC fl_X7_46 (hW210.o 1 (by decide)) rfl rfl (Nat.le_of_ble_eq_true rfl) dX7_clear_94 ?_
        refine g_vF (fun F226 hF226 => ?_)
        obtain ⟨hW228, k229⟩ := gWT.put (k := 5) (x := 0) hW210 (i := 1) (by decide) hF226 rfl gsame_5 (fun q => absurd q (by decide))
        obtain ⟨S227, hS227⟩ : ∃ z, z = uV S209 5 0 := ⟨_, rfl⟩
        rw [← hS227] at hW228
        have s230 : gSm S209 S227 [] [5] := by rw [hS227]; exact gSm_uV
        have hM231 : gSm S S227 [1, 2, 3, 4, 5, 6] [2, 3, 4, 5, 6] := hM213.tr s230 _ _ rfl rfl
        have hK232 : gKp Y F F226 := hK214.tr k229
        have z233 : sZ S227 3 = 0 := (s230.z 3 (by decide)).trans z215
        have z234 : sN S227 3 = 16 := (s230.n 3 (by decide)).trans z216
        have z235 : sZ S227 5 = 0 := (s230.z 5 (by decide)).trans z217
        have z236 : sN S227 5 = 16 := (s230.n 5 (by decide)).trans z218
        have z237 : sZ S227 2 = 100 := (s230.z 2 (by decide)).trans z219
        have z238 : sN S227 2 = (sN S1 2) := (s230.n 2 (by decide)).trans z220
        have z239 : sZ S227 1 = (0 + 1 + 1) := (s230.z 1 (by decide)).trans z221
        have z240 : sN S227 1 = 16 := (s230.n 1 (by decide)).trans z222
        have z241 : sV S227 2 = words := (s230.v 2 (by decide)).trans z223
        have z242 : sV S227 3 = (-1) := (s230.v 3 (by decide)).trans z224
        have z243 : sV S227 4 = 0 := (s230.v 4 (by decide)).trans z225
        have z244 : sV S227 5 = 0 := by rw [hS227]; exact uV_self
        clear z215 z216 z217 z218 z219 z220 z221 z222 z223 z224 z225 hM213 hK214 s230 k229 hW210
        refine g_aload_n hC dX7_clear_97 rfl ?_
        refine g_iconst (v := 0) hC dX7_clear_98 rfl ?_
        refine g_put hC fl_X7_49 (hW228.o 1 (by decide)) rfl rfl (Nat.le_of_ble_eq_true rfl) dX7_clear_99 ?_
        refine g_vF (fun F245 hF245 => ?_)
        obtain ⟨hW247, k248⟩ := gWT.put (k := 6) (x := 0) hW228 (i := 1) (by decide) hF245 rfl gsame_6 (fun _ => by decide)
        obtain ⟨S246, hS246⟩ : ∃ z, z = uV S227 6 0 := ⟨_, rfl⟩
        rw [← hS246] at hW247
        have s249 : gSm S227 S246 [] [6] := by rw [hS246]; exact gSm_uV
        have hM250 : gSm S S246 [1, 2, 3, 4, 5, 6] [2, 3, 4, 5, 6] := hM231.tr s249 _ _ rfl rfl
        have hK251 : gKp Y F F245 := hK232.tr k248
        have z252 : sZ S246 3 = 0 := (s249.z 3 (by decide)).trans z233
        have z253 : sN S246 3 = 16 := (s249.n 3 (by decide)).trans z234
        have z254 : sZ S246 5 = 0 := (s249.z 5 (by decide)).trans z235
        have z255 : sN S246 5 = 16 := (s249.n 5 (by decide)).trans z236
        have z256 : sZ S246 2 = 100 := (s249.z 2 (by decide)).trans z237
        have z257 : sN S246 2 = (sN S1 2) := (s249.n 2 (by decide)).trans z238
        have z258 : sZ S246 1 = (0 + 1 + 1) := (s249.z 1 (by decide)).trans z239
        have z259 : sN S246 1 = 16 := (s249.n 1 (by decide)).trans z240
        have z260 : sV S246 2 = words := (s249.v 2 (by decide)).trans z241
        have z261 : sV S246 3 = (-1) := (s249.v 3 (by decide)).trans z242
        have z262 : sV S246 4 = 0 := (s249.v 4 (by decide)).trans z243
        have z263 : sV S246 5 = 0 := (s249.v 5 (by decide)).trans z244
        have z264 : sV S246 6 = 0 := by rw [hS246]; exact uV_self
        clear z233 z234 z235 z236 z237 z238 z239 z240 z241 z242 z243 z244 hM231 hK232 s249 k248 hW228
        exact g_vret hC ⟨S246, hW247, hK251, hM250, z256, z252, z254, z261, z262, z263, z264⟩ (by first | exact Nat.le_of_ble_eq_true rfl | omega | (simp only [gR]; omega)) (by first | exact Nat.le_of_ble_eq_true rfl | omega | (simp only [gR]; omega)) dX7_clear_102
      · exact absurd (nI_le (a := 100) (b := i) (by omega) (by omega)) c157
    | succ m ih =>
      intro i F1 S1 hmi hW1 hK1 hM1 hz2 hn2 hz1 hn1 hz3 hn3 hz5 hn5
      refine g_iload_n hC dX7_clear_50 rfl ?_
      refine g_bipush (v := 100) hC dX7_clear_51 rfl ?_
      refine g_icmp_ge (tgt := 70) hC dX7_clear_53 (by decide) (fun c265 => ?_) (fun c265 => ?_)
      · exact absurd ((nI_leI (a := 100) (by omega) (by omega)).mp c265) (by omega)
      · refine g_aload_n hC dX7_clear_56 rfl ?_
        refine g_get hC fl_X7_21 (hW1.o 1 (by decide)) rfl dX7_clear_57 ?_
        refine g_iconst (v := 0) hC dX7_clear_60 rfl ?_
        have hA1 : gAc (sN S1 2) (sZ S1 2) ≤ 1 := by unfold gAc; split <;> omega
        have hA2 : gAs (gmo 2) (sN S1 2) (sZ S1 2) ≤ 256 := by
          unfold gAs; rw [hz2]; split
          · omega
          · exact Nat.le_trans (Nat.min_le_right _ _) (by omega)
        have hA3 : gAn (gmo 2) (sN S1 2) (sZ S1 2) ≤ 256 := by
          unfold gAn; rw [hz2]; split
          · omega
          · exact Nat.le_trans (Nat.min_le_right _ _) (by omega)
        refine g_callVv (As := [.int 0]) hC rfl (hW1.r 2 (by decide)).1 (c_Ints_add X.la d b F1 _ _ _ _ _ _ (hW1.r 2 (by decide)) 0) cl_X7_56 rfl rfl (Nat.le_of_ble_eq_true rfl) (gFit_of (Nat.le_of_ble_eq_true rfl) (Nat.le_of_ble_eq_true rfl) (by first | exact Nat.le_of_ble_eq_true rfl | omega | (simp only [gR]; omega)) (by first | exact Nat.le_of_ble_eq_true rfl | omega | (simp only [gR]; omega))) dX7_clear_61 (fun F269 p270 => ?_)
        refine g_widen (k2 := i + 1) (n2 := 256 * (i + 1)) (by omega) (by omega) ?_
        obtain ⟨S271, hW272, k273, s274, a275, -⟩ := wt_add hW1 (by decide) p270
        have a275 := a275 (by rw [hz2]; show i < 1000000; omega)
        have hM276 : gSm S S271 [1, 2, 3, 4, 5, 6] [2, 3, 4, 5, 6] := hM1.tr s274 _ _ rfl rfl
        have hK277 : gKp Y F F269 := hK1.tr k273
        have z278 : sZ S271 1 = 0 := (s274.z 1 (by decide)).trans hz1
        have z279 : sN S271 1 = 16 := (s274.n 1 (by decide)).trans hn1
        have z280 : sZ S271 3 = 0 := (s274.z 3 (by decide)).trans hz3
        have z281 : sN S271 3 = 16 := (s274.n 3 (by decide)).trans hn3
        have z282 : sZ S271 5 = 0 := (s274.z 5 (by decide)).trans hz5
        have z283 : sN S271 5 = 16 := (s274.n 5 (by decide)).trans hn5
        obtain ⟨x284, ex284⟩ : ∃ y : Int32, y = (nI i) + 1 := ⟨_, rfl⟩
        refine g_iinc (v := x284) (lv' := [some (.ref (gO' Y 1)), some (.int words), some (.int x284)]) hC dX7_clear_64 rfl (by rw [ex284]; rfl) rfl rfl ?_
        have zx284 : x284 = nI (i + 1) := by rw [ex284]; exact nI_1 i
        subst zx284
        refine g_goto (tgt := 50) hC dX7_clear_67 (by decide) ?_
        exact ih (i + 1) _ _ (by omega) hW272 hK277 hM276 (by rw [a275.1, hz2]) (by rw [a275.2.1]; exact hA3) z278 z279 z280 z281 z282 z283
  exact LOOP 100 0 _ _ rfl hW135 hK144 hM143 z147 (by rw [z148]; omega) z145 z146 z149 z150 z153 z154
end
section
theorem kw_1212 : Cond.code yX7_words cX7_words 1 (some .int) ∈ gWs := gWm 1212 (by decide +kernel) rfl
theorem kw_1583 : Cond.methodLink RX7 63 yX7_words ∈ gWs := gWm 1583 (by decide +kernel) rfl
theorem kw_1210 : Cond.instanceMethod yX7_words ∈ gWs := gWm 1210 (by decide +kernel) rfl
theorem kw_1211 : Cond.selects RX7 yX7_words yX7_words ∈ gWs := gWm 1211 (by decide +kernel) rfl
theorem cl_X7_63 : gCV RX7 63 yX7_words cX7_words 1 (some .int) 0 := ⟨g_mk [.methodLink RX7 63 yX7_words, .instanceMethod yX7_words, .selects yX7_words.cls yX7_words yX7_words, .initialized yX7_words.cls] (gWs_all kw_1212) (List.forall_mem_cons.mpr ⟨kw_1583, List.forall_mem_cons.mpr ⟨kw_1210, List.forall_mem_cons.mpr ⟨kw_1211, List.forall_mem_cons.mpr ⟨kw_240, fun _ h => nomatch h⟩⟩⟩⟩), rfl, by decide +kernel, by decide +kernel, by decide +kernel⟩
theorem kw_341 : Cond.fieldLink RX10 15 "WordTongue$Tree" "kinds" "LWordTongue$Ints;" ∈ gWs := gWm 341 (by decide +kernel) rfl
theorem kw_348 : Cond.laysFinal RX10 "WordTongue$Tree" "kinds" "LWordTongue$Ints;" ∈ gWs := gWm 348 (by decide +kernel) rfl
theorem kw_350 : Cond.laysFinal RX10 "WordTongue$Tree" "places" "LWordTongue$Ints;" ∈ gWs := gWm 350 (by decide +kernel) rfl
theorem kw_352 : Cond.laysFinal RX10 "WordTongue$Tree" "datas" "LWordTongue$Ints;" ∈ gWs := gWm 352 (by decide +kernel) rfl
theorem kw_354 : Cond.laysFinal RX10 "WordTongue$Tree" "extras" "LWordTongue$Ints;" ∈ gWs := gWm 354 (by decide +kernel) rfl
theorem kw_356 : Cond.laysFinal RX10 "WordTongue$Tree" "firsts" "LWordTongue$Ints;" ∈ gWs := gWm 356 (by decide +kernel) rfl
theorem kw_358 : Cond.laysFinal RX10 "WordTongue$Tree" "lasts" "LWordTongue$Ints;" ∈ gWs := gWm 358 (by decide +kernel) rfl
theorem kw_360 : Cond.laysFinal RX10 "WordTongue$Tree" "nexts" "LWordTongue$Ints;" ∈ gWs := gWm 360 (by decide +kernel) rfl
set_option maxRecDepth 20000 in
theorem inW_RX10 : ∀ w ∈ u_ws RX10 TX10 7, w ∈ gWs := List.forall_mem_cons.mpr ⟨kw_348, List.forall_mem_cons.mpr ⟨kw_350, List.forall_mem_cons.mpr ⟨kw_352, List.forall_mem_cons.mpr ⟨kw_354, List.forall_mem_cons.mpr ⟨kw_356, List.forall_mem_cons.mpr ⟨kw_358, List.forall_mem_cons.mpr ⟨kw_360, fun _ h => nomatch h⟩⟩⟩⟩⟩⟩⟩
theorem fl_X10_15 : gFL RX10 15 10 0 (.object "WordTongue$Ints") true := ⟨RX10, TX10, 7, tyX10, rfl, by decide, inW_RX10, kw_341, tyX10_ok, nmX10, rfl, by decide +kernel, fun _ => rfl⟩
theorem kw_960 : Cond.methodLink RX10 46 yX4_add ∈ gWs := gWm 960 (by decide +kernel) rfl
theorem cl_X10_46 : gCV RX10 46 yX4_add cX4_add 2 none 1 := ⟨g_mk [.methodLink RX10 46 yX4_add, .instanceMethod yX4_add, .selects yX4_add.cls yX4_add yX4_add, .initialized yX4_add.cls] (gWs_all kw_444) (List.forall_mem_cons.mpr ⟨kw_960, List.forall_mem_cons.mpr ⟨kw_442, List.forall_mem_cons.mpr ⟨kw_443, List.forall_mem_cons.mpr ⟨kw_239, fun _ h => nomatch h⟩⟩⟩⟩), rfl, by decide +kernel, by decide +kernel, by decide +kernel⟩
theorem kw_342 : Cond.fieldLink RX10 21 "WordTongue$Tree" "places" "LWordTongue$Ints;" ∈ gWs := gWm 342 (by decide +kernel) rfl
theorem fl_X10_21 : gFL RX10 21 10 1 (.object "WordTongue$Ints") true := ⟨RX10, TX10, 7, tyX10, rfl, by decide, inW_RX10, kw_342, tyX10_ok, nmX10, rfl, by decide +kernel, fun _ => rfl⟩
theorem kw_343 : Cond.fieldLink RX10 24 "WordTongue$Tree" "datas" "LWordTongue$Ints;" ∈ gWs := gWm 343 (by decide +kernel) rfl
theorem fl_X10_24 : gFL RX10 24 10 2 (.object "WordTongue$Ints") true := ⟨RX10, TX10, 7, tyX10, rfl, by decide, inW_RX10, kw_343, tyX10_ok, nmX10, rfl, by decide +kernel, fun _ => rfl⟩
theorem kw_344 : Cond.fieldLink RX10 27 "WordTongue$Tree" "extras" "LWordTongue$Ints;" ∈ gWs := gWm 344 (by decide +kernel) rfl
theorem fl_X10_27 : gFL RX10 27 10 3 (.object "WordTongue$Ints") true := ⟨RX10, TX10, 7, tyX10, rfl, by decide, inW_RX10, kw_344, tyX10_ok, nmX10, rfl, by decide +kernel, fun _ => rfl⟩
theorem kw_345 : Cond.fieldLink RX10 30 "WordTongue$Tree" "firsts" "LWordTongue$Ints;" ∈ gWs := gWm 345 (by decide +kernel) rfl
theorem fl_X10_30 : gFL RX10 30 10 4 (.object "WordTongue$Ints") true := ⟨RX10, TX10, 7, tyX10, rfl, by decide, inW_RX10, kw_345, tyX10_ok, nmX10, rfl, by decide +kernel, fun _ => rfl⟩
theorem kw_346 : Cond.fieldLink RX10 33 "WordTongue$Tree" "lasts" "LWordTongue$Ints;" ∈ gWs := gWm 346 (by decide +kernel) rfl
theorem fl_X10_33 : gFL RX10 33 10 5 (.object "WordTongue$Ints") true := ⟨RX10, TX10, 7, tyX10, rfl, by decide, inW_RX10, kw_346, tyX10_ok, nmX10, rfl, by decide +kernel, fun _ => rfl⟩
theorem kw_347 : Cond.fieldLink RX10 36 "WordTongue$Tree" "nexts" "LWordTongue$Ints;" ∈ gWs := gWm 347 (by decide +kernel) rfl
theorem fl_X10_36 : gFL RX10 36 10 6 (.object "WordTongue$Ints") true := ⟨RX10, TX10, 7, tyX10, rfl, by decide, inW_RX10, kw_347, tyX10_ok, nmX10, rfl, by decide +kernel, fun _ => rfl⟩
theorem kw_961 : Cond.methodLink RX10 49 yX4_size ∈ gWs := gWm 961 (by decide +kernel) rfl
theorem cl_X10_49 : gCV RX10 49 yX4_size cX4_size 1 (some .int) 0 := ⟨g_mk [.methodLink RX10 49 yX4_size, .instanceMethod yX4_size, .selects yX4_size.cls yX4_size yX4_size, .initialized yX4_size.cls] (gWs_all kw_428) (List.forall_mem_cons.mpr ⟨kw_961, List.forall_mem_cons.mpr ⟨kw_426, List.forall_mem_cons.mpr ⟨kw_427, List.forall_mem_cons.mpr ⟨kw_239, fun _ h => nomatch h⟩⟩⟩⟩), rfl, by decide +kernel, by decide +kernel, by decide +kernel⟩
theorem kw_955 : Cond.methodLink RX10 39 yX4_cut ∈ gWs := gWm 955 (by decide +kernel) rfl
theorem cl_X10_39 : gCV RX10 39 yX4_cut cX4_cut 2 none 1 := ⟨g_mk [.methodLink RX10 39 yX4_cut, .instanceMethod yX4_cut, .selects yX4_cut.cls yX4_cut yX4_cut, .initialized yX4_cut.cls] (gWs_all kw_468) (List.forall_mem_cons.mpr ⟨kw_955, List.forall_mem_cons.mpr ⟨kw_466, List.forall_mem_cons.mpr ⟨kw_467, List.forall_mem_cons.mpr ⟨kw_239, fun _ h => nomatch h⟩⟩⟩⟩), rfl, by decide +kernel, by decide +kernel, by decide +kernel⟩
theorem kw_241 : Cond.initialized RX10 ∈ gWs := gWm 241 (by decide +kernel) rfl
theorem kw_959 : Cond.code yX10_node cX10_node 4 (some .int) ∈ gWs := gWm 959 (by decide +kernel) rfl
theorem kw_956 : Cond.methodLink RX10 42 yX10_node ∈ gWs := gWm 956 (by decide +kernel) rfl
theorem kw_957 : Cond.instanceMethod yX10_node ∈ gWs := gWm 957 (by decide +kernel) rfl
theorem kw_958 : Cond.selects RX10 yX10_node yX10_node ∈ gWs := gWm 958 (by decide +kernel) rfl
theorem cl_X10_42 : gCV RX10 42 yX10_node cX10_node 4 (some .int) 3 := ⟨g_mk [.methodLink RX10 42 yX10_node, .instanceMethod yX10_node, .selects yX10_node.cls yX10_node yX10_node, .initialized yX10_node.cls] (gWs_all kw_959) (List.forall_mem_cons.mpr ⟨kw_956, List.forall_mem_cons.mpr ⟨kw_957, List.forall_mem_cons.mpr ⟨kw_958, List.forall_mem_cons.mpr ⟨kw_241, fun _ h => nomatch h⟩⟩⟩⟩), rfl, by decide +kernel, by decide +kernel, by decide +kernel⟩
theorem kw_472 : Cond.fieldLink RX8 47 "WordTongue$Scanner" "text" "LWordTongue$Ints;" ∈ gWs := gWm 472 (by decide +kernel) rfl
theorem kw_483 : Cond.laysFinal RX8 "WordTongue$Scanner" "text" "LWordTongue$Ints;" ∈ gWs := gWm 483 (by decide +kernel) rfl
theorem kw_485 : Cond.laysFinal RX8 "WordTongue$Scanner" "kinds" "LWordTongue$Ints;" ∈ gWs := gWm 485 (by decide +kernel) rfl
theorem kw_487 : Cond.laysFinal RX8 "WordTongue$Scanner" "infos" "LWordTongue$Ints;" ∈ gWs := gWm 487 (by decide +kernel) rfl
theorem kw_489 : Cond.laysFinal RX8 "WordTongue$Scanner" "places" "LWordTongue$Ints;" ∈ gWs := gWm 489 (by decide +kernel) rfl
theorem kw_491 : Cond.laysFinal RX8 "WordTongue$Scanner" "strings" "LWordTongue$Ints;" ∈ gWs := gWm 491 (by decide +kernel) rfl
theorem kw_493 : Cond.laysFinal RX8 "WordTongue$Scanner" "letters" "LWordTongue$Ints;" ∈ gWs := gWm 493 (by decide +kernel) rfl
theorem kw_495 : Cond.laysFinal RX8 "WordTongue$Scanner" "heads" "LWordTongue$Ints;" ∈ gWs := gWm 495 (by decide +kernel) rfl
theorem kw_497 : Cond.laysFinal RX8 "WordTongue$Scanner" "sums" "LWordTongue$Ints;" ∈ gWs := gWm 497 (by decide +kernel) rfl
theorem kw_499 : Cond.laysFinal RX8 "WordTongue$Scanner" "knownLetters" "I" ∈ gWs := gWm 499 (by decide +kernel) rfl
theorem kw_501 : Cond.lays RX8 "WordTongue$Scanner" "at" "I" ∈ gWs := gWm 501 (by decide +kernel) rfl
theorem kw_503 : Cond.lays RX8 "WordTongue$Scanner" "fresh" "Z" ∈ gWs := gWm 503 (by decide +kernel) rfl
set_option maxRecDepth 20000 in
theorem inW_RX8 : ∀ w ∈ u_ws RX8 TX8 11, w ∈ gWs := List.forall_mem_cons.mpr ⟨kw_483, List.forall_mem_cons.mpr ⟨kw_485, List.forall_mem_cons.mpr ⟨kw_487, List.forall_mem_cons.mpr ⟨kw_489, List.forall_mem_cons.mpr ⟨kw_491, List.forall_mem_cons.mpr ⟨kw_493, List.forall_mem_cons.mpr ⟨kw_495, List.forall_mem_cons.mpr ⟨kw_497, List.forall_mem_cons.mpr ⟨kw_499, List.forall_mem_cons.mpr ⟨kw_501, List.forall_mem_cons.mpr ⟨kw_503, fun _ h => nomatch h⟩⟩⟩⟩⟩⟩⟩⟩⟩⟩⟩
theorem fl_X8_47 : gFL RX8 47 8 0 (.object "WordTongue$Ints") true := ⟨RX8, TX8, 11, tyX8, rfl, by decide, inW_RX8, kw_472, tyX8_ok, nmX8, rfl, by decide +kernel, fun _ => rfl⟩
theorem kw_425 : Cond.methodLink RX8 62 yX4_size ∈ gWs := gWm 425 (by decide +kernel) rfl
theorem cl_X8_62 : gCV RX8 62 yX4_size cX4_size 1 (some .int) 0 := ⟨g_mk [.methodLink RX8 62 yX4_size, .instanceMethod yX4_size, .selects yX4_size.cls yX4_size yX4_size, .initialized yX4_size.cls] (gWs_all kw_428) (List.forall_mem_cons.mpr ⟨kw_425, List.forall_mem_cons.mpr ⟨kw_426, List.forall_mem_cons.mpr ⟨kw_427, List.forall_mem_cons.mpr ⟨kw_239, fun _ h => nomatch h⟩⟩⟩⟩), rfl, by decide +kernel, by decide +kernel, by decide +kernel⟩
theorem kw_481 : Cond.fieldLink RX8 39 "WordTongue$Scanner" "at" "I" ∈ gWs := gWm 481 (by decide +kernel) rfl
theorem fl_X8_39 : gFL RX8 39 8 9 .int false := ⟨RX8, TX8, 11, tyX8, rfl, by decide, inW_RX8, kw_481, tyX8_ok, nmX8, rfl, by decide +kernel, fun h => by cases h⟩
theorem kw_482 : Cond.fieldLink RX8 43 "WordTongue$Scanner" "fresh" "Z" ∈ gWs := gWm 482 (by decide +kernel) rfl
theorem fl_X8_43 : gFL RX8 43 8 10 .boolean false := ⟨RX8, TX8, 11, tyX8, rfl, by decide, inW_RX8, kw_482, tyX8_ok, nmX8, rfl, by decide +kernel, fun h => by cases h⟩
theorem kw_473 : Cond.fieldLink RX8 15 "WordTongue$Scanner" "kinds" "LWordTongue$Ints;" ∈ gWs := gWm 473 (by decide +kernel) rfl
theorem fl_X8_15 : gFL RX8 15 8 1 (.object "WordTongue$Ints") true := ⟨RX8, TX8, 11, tyX8, rfl, by decide, inW_RX8, kw_473, tyX8_ok, nmX8, rfl, by decide +kernel, fun _ => rfl⟩
theorem kw_441 : Cond.methodLink RX8 85 yX4_add ∈ gWs := gWm 441 (by decide +kernel) rfl
theorem cl_X8_85 : gCV RX8 85 yX4_add cX4_add 2 none 1 := ⟨g_mk [.methodLink RX8 85 yX4_add, .instanceMethod yX4_add, .selects yX4_add.cls yX4_add yX4_add, .initialized yX4_add.cls] (gWs_all kw_444) (List.forall_mem_cons.mpr ⟨kw_441, List.forall_mem_cons.mpr ⟨kw_442, List.forall_mem_cons.mpr ⟨kw_443, List.forall_mem_cons.mpr ⟨kw_239, fun _ h => nomatch h⟩⟩⟩⟩), rfl, by decide +kernel, by decide +kernel, by decide +kernel⟩
theorem kw_474 : Cond.fieldLink RX8 21 "WordTongue$Scanner" "infos" "LWordTongue$Ints;" ∈ gWs := gWm 474 (by decide +kernel) rfl
theorem fl_X8_21 : gFL RX8 21 8 2 (.object "WordTongue$Ints") true := ⟨RX8, TX8, 11, tyX8, rfl, by decide, inW_RX8, kw_474, tyX8_ok, nmX8, rfl, by decide +kernel, fun _ => rfl⟩
theorem kw_475 : Cond.fieldLink RX8 24 "WordTongue$Scanner" "places" "LWordTongue$Ints;" ∈ gWs := gWm 475 (by decide +kernel) rfl
theorem fl_X8_24 : gFL RX8 24 8 3 (.object "WordTongue$Ints") true := ⟨RX8, TX8, 11, tyX8, rfl, by decide, inW_RX8, kw_475, tyX8_ok, nmX8, rfl, by decide +kernel, fun _ => rfl⟩
theorem kw_465 : Cond.methodLink RX8 82 yX4_cut ∈ gWs := gWm 465 (by decide +kernel) rfl
theorem cl_X8_82 : gCV RX8 82 yX4_cut cX4_cut 2 none 1 := ⟨g_mk [.methodLink RX8 82 yX4_cut, .instanceMethod yX4_cut, .selects yX4_cut.cls yX4_cut yX4_cut, .initialized yX4_cut.cls] (gWs_all kw_468) (List.forall_mem_cons.mpr ⟨kw_465, List.forall_mem_cons.mpr ⟨kw_466, List.forall_mem_cons.mpr ⟨kw_467, List.forall_mem_cons.mpr ⟨kw_239, fun _ h => nomatch h⟩⟩⟩⟩), rfl, by decide +kernel, by decide +kernel, by decide +kernel⟩
theorem kw_476 : Cond.fieldLink RX8 27 "WordTongue$Scanner" "strings" "LWordTongue$Ints;" ∈ gWs := gWm 476 (by decide +kernel) rfl
theorem fl_X8_27 : gFL RX8 27 8 4 (.object "WordTongue$Ints") true := ⟨RX8, TX8, 11, tyX8, rfl, by decide, inW_RX8, kw_476, tyX8_ok, nmX8, rfl, by decide +kernel, fun _ => rfl⟩
theorem kw_477 : Cond.fieldLink RX8 30 "WordTongue$Scanner" "letters" "LWordTongue$Ints;" ∈ gWs := gWm 477 (by decide +kernel) rfl
theorem fl_X8_30 : gFL RX8 30 8 5 (.object "WordTongue$Ints") true := ⟨RX8, TX8, 11, tyX8, rfl, by decide, inW_RX8, kw_477, tyX8_ok, nmX8, rfl, by decide +kernel, fun _ => rfl⟩
theorem kw_480 : Cond.fieldLink RX8 66 "WordTongue$Scanner" "knownLetters" "I" ∈ gWs := gWm 480 (by decide +kernel) rfl
theorem fl_X8_66 : gFL RX8 66 8 8 .int true := ⟨RX8, TX8, 11, tyX8, rfl, by decide, inW_RX8, kw_480, tyX8_ok, nmX8, rfl, by decide +kernel, fun _ => rfl⟩
theorem kw_478 : Cond.fieldLink RX8 33 "WordTongue$Scanner" "heads" "LWordTongue$Ints;" ∈ gWs := gWm 478 (by decide +kernel) rfl
theorem fl_X8_33 : gFL RX8 33 8 6 (.object "WordTongue$Ints") true := ⟨RX8, TX8, 11, tyX8, rfl, by decide, inW_RX8, kw_478, tyX8_ok, nmX8, rfl, by decide +kernel, fun _ => rfl⟩
theorem kw_479 : Cond.fieldLink RX8 36 "WordTongue$Scanner" "sums" "LWordTongue$Ints;" ∈ gWs := gWm 479 (by decide +kernel) rfl
theorem fl_X8_36 : gFL RX8 36 8 7 (.object "WordTongue$Ints") true := ⟨RX8, TX8, 11, tyX8, rfl, by decide, inW_RX8, kw_479, tyX8_ok, nmX8, rfl, by decide +kernel, fun _ => rfl⟩
theorem kw_370 : Cond.constant RX8 11 1000000 ∈ gWs := gWm 370 (by decide +kernel) rfl
theorem kw_242 : Cond.initialized RX8 ∈ gWs := gWm 242 (by decide +kernel) rfl
theorem kw_867 : Cond.code yX8_pass cX8_pass 3 none ∈ gWs := gWm 867 (by decide +kernel) rfl
theorem kw_864 : Cond.methodLink RX8 96 yX8_pass ∈ gWs := gWm 864 (by decide +kernel) rfl
theorem kw_866 : Cond.instanceMethod yX8_pass ∈ gWs := gWm 866 (by decide +kernel) rfl
theorem kw_4 : Cond.selects RX8 yX8_pass yX8_pass ∈ gWs := gWm 4 (by decide +kernel) rfl
theorem cl_X8_96 : gCV RX8 96 yX8_pass cX8_pass 3 none 0 := ⟨g_mk [.methodLink RX8 96 yX8_pass, .instanceMethod yX8_pass, .selects yX8_pass.cls yX8_pass yX8_pass, .initialized yX8_pass.cls] (gWs_all kw_867) (List.forall_mem_cons.mpr ⟨kw_864, List.forall_mem_cons.mpr ⟨kw_866, List.forall_mem_cons.mpr ⟨kw_4, List.forall_mem_cons.mpr ⟨kw_242, fun _ h => nomatch h⟩⟩⟩⟩), rfl, by decide +kernel, by decide +kernel, by decide +kernel⟩
theorem kw_875 : Cond.code yX8_put cX8_put 4 none ∈ gWs := gWm 875 (by decide +kernel) rfl
theorem kw_872 : Cond.methodLink RX8 99 yX8_put ∈ gWs := gWm 872 (by decide +kernel) rfl
theorem kw_874 : Cond.instanceMethod yX8_put ∈ gWs := gWm 874 (by decide +kernel) rfl
theorem kw_6 : Cond.selects RX8 yX8_put yX8_put ∈ gWs := gWm 6 (by decide +kernel) rfl
theorem cl_X8_99 : gCV RX8 99 yX8_put cX8_put 4 none 3 := ⟨g_mk [.methodLink RX8 99 yX8_put, .instanceMethod yX8_put, .selects yX8_put.cls yX8_put yX8_put, .initialized yX8_put.cls] (gWs_all kw_875) (List.forall_mem_cons.mpr ⟨kw_872, List.forall_mem_cons.mpr ⟨kw_874, List.forall_mem_cons.mpr ⟨kw_6, List.forall_mem_cons.mpr ⟨kw_242, fun _ h => nomatch h⟩⟩⟩⟩), rfl, by decide +kernel, by decide +kernel, by decide +kernel⟩
theorem dX7_blame_0 : decode cX7_blame 0 = .ok (.iload_n 2, 1) := by decide +kernel
theorem dX7_blame_1 : decode cX7_blame 1 = .ok (.aload_n 0, 1) := by decide +kernel
theorem dX7_blame_2 : decode cX7_blame 2 = .ok (.getfield 46, 3) := by decide +kernel
theorem dX7_blame_5 : decode cX7_blame 5 = .ok (.if_icmp .lt 19, 3) := by decide +kernel
theorem dX7_blame_8 : decode cX7_blame 8 = .ok (.iload_n 2, 1) := by decide +kernel
theorem dX7_blame_9 : decode cX7_blame 9 = .ok (.aload_n 0, 1) := by decide +kernel
theorem dX7_blame_10 : decode cX7_blame 10 = .ok (.getfield 46, 3) := by decide +kernel
theorem dX7_blame_13 : decode cX7_blame 13 = .ok (.if_icmp .ne 15, 3) := by decide +kernel
theorem dX7_blame_16 : decode cX7_blame 16 = .ok (.iload_n 1, 1) := by decide +kernel
theorem dX7_blame_17 : decode cX7_blame 17 = .ok (.aload_n 0, 1) := by decide +kernel
theorem dX7_blame_18 : decode cX7_blame 18 = .ok (.getfield 43, 3) := by decide +kernel
theorem dX7_blame_21 : decode cX7_blame 21 = .ok (.if_icmp .ge 7, 3) := by decide +kernel
theorem dX7_blame_24 : decode cX7_blame 24 = .ok (.iconst 1, 1) := by decide +kernel
theorem dX7_blame_25 : decode cX7_blame 25 = .ok (.goto 4, 3) := by decide +kernel
theorem dX7_blame_28 : decode cX7_blame 28 = .ok (.iconst 0, 1) := by decide +kernel
theorem dX7_blame_29 : decode cX7_blame 29 = .ok (.istore_n 3, 1) := by decide +kernel
theorem dX7_blame_30 : decode cX7_blame 30 = .ok (.aload_n 0, 1) := by decide +kernel
theorem dX7_blame_31 : decode cX7_blame 31 = .ok (.getfield 43, 3) := by decide +kernel
theorem dX7_blame_34 : decode cX7_blame 34 = .ok (.ifCond .eq 7, 3) := by decide +kernel
theorem dX7_blame_37 : decode cX7_blame 37 = .ok (.iload_n 3, 1) := by decide +kernel
theorem dX7_blame_38 : decode cX7_blame 38 = .ok (.ifCond .eq 13, 3) := by decide +kernel
theorem dX7_blame_41 : decode cX7_blame 41 = .ok (.aload_n 0, 1) := by decide +kernel
theorem dX7_blame_42 : decode cX7_blame 42 = .ok (.iload_n 1, 1) := by decide +kernel
theorem dX7_blame_43 : decode cX7_blame 43 = .ok (.putfield 43, 3) := by decide +kernel
theorem dX7_blame_46 : decode cX7_blame 46 = .ok (.aload_n 0, 1) := by decide +kernel
theorem dX7_blame_47 : decode cX7_blame 47 = .ok (.iload_n 2, 1) := by decide +kernel
theorem dX7_blame_48 : decode cX7_blame 48 = .ok (.putfield 46, 3) := by decide +kernel
theorem dX7_blame_51 : decode cX7_blame 51 = .ok (.return_, 1) := by decide +kernel
set_option maxHeartbeats 4000000 in
set_option maxRecDepth 100000 in
theorem c_P_blame0 (l : Launch) (d : gD) (b : Nat) (Y : gYt) (F : gM) (S : gSt) (hW : gWT d Y F S) (x y : Int32) (hv4 : sV S 4 = 0) : gMv l d b yX7_blame cX7_blame 4 1 0 0 F [.ref (gO' Y 1), .int x, .int y] (fun F' => ∃ S', gWT d Y F' S' ∧ gKp Y F F' ∧ gSm S S' [] [4, 5] ∧ sV S' 4 = x ∧ sV S' 5 = y) := by
  refine gM_of2 rfl (nL := 4) (Nat.le_of_ble_eq_true rfl) ?_
  intro X hX hC; subst hX
  show gG X d b _ F 0 0 0 [some (.ref (gO' Y 1)), some (.int x), some (.int y), none] []
  have hM0 : gSm S S [] [4, 5] := gSm.rf
  have hK0 : gKp Y F F := gKp.rf
  refine g_iload_n hC dX7_blame_0 rfl ?_
  refine g_aload_n hC dX7_blame_1 rfl ?_
  refine g_get hC fl_X7_46 (hW.o 1 (by decide)) rfl dX7_blame_2 ?_
  refine g_icmp_lt (tgt := 24) hC dX7_blame_5 (by decide) (fun c1 => ?_) (fun c1 => ?_)
  · refine g_iconst (v := 1) hC dX7_blame_24 rfl ?_
    refine g_goto (tgt := 29) hC dX7_blame_25 (by decide) ?_
    refine g_istore_n (lv' := [some (.ref (gO' Y 1)), some (.int x), some (.int y), some (.int 1)]) hC dX7_blame_29 (Nat.le_of_ble_eq_true rfl) rfl rfl ?_
    refine g_aload_n hC dX7_blame_30 rfl ?_
    refine g_get hC fl_X7_43 (hW.o 1 (by decide)) rfl dX7_blame_31 ?_
    refine g_if_eq (tgt := 41) hC dX7_blame_34 (by decide) (fun c2 => ?_) (fun c2 => ?_)
    · refine g_aload_n hC dX7_blame_41 rfl ?_
      refine g_iload_n hC dX7_blame_42 rfl ?_
      refine g_put hC fl_X7_43 (hW.o 1 (by decide)) rfl rfl (Nat.le_of_ble_eq_true rfl) dX7_blame_43 ?_
      refine g_vF (fun F3 hF3 => ?_)
      obtain ⟨hW5, k6⟩ := gWT.put (k := 4) (x := x) hW (i := 1) (by decide) hF3 rfl gsame_4 (fun q => absurd q (by decide))
      obtain ⟨S4, hS4⟩ : ∃ z, z = uV S 4 x := ⟨_, rfl⟩
      rw [← hS4] at hW5
      have s7 : gSm S S4 [] [4] := by rw [hS4]; exact gSm_uV
      have hM8 : gSm S S4 [] [4, 5] := hM0.tr s7 _ _ rfl rfl
      have hK9 : gKp Y F F3 := hK0.tr k6
      have z10 : sV S4 4 = x := by rw [hS4]; exact uV_self
      clear hM0 hK0 s7 k6 hW
      refine g_aload_n hC dX7_blame_46 rfl ?_
      refine g_iload_n hC dX7_blame_47 rfl ?_
      refine g_put hC fl_X7_46 (hW5.o 1 (by decide)) rfl rfl (Nat.le_of_ble_eq_true rfl) dX7_blame_48 ?_
      refine g_vF (fun F11 hF11 => ?_)
      obtain ⟨hW13, k14⟩ := gWT.put (k := 5) (x := y) hW5 (i := 1) (by decide) hF11 rfl gsame_5 (fun q => absurd q (by decide))
      obtain ⟨S12, hS12⟩ : ∃ z, z = uV S4 5 y := ⟨_, rfl⟩
      rw [← hS12] at hW13
      have s15 : gSm S4 S12 [] [5] := by rw [hS12]; exact gSm_uV
      have hM16 : gSm S S12 [] [4, 5] := hM8.tr s15 _ _ rfl rfl
      have hK17 : gKp Y F F11 := hK9.tr k14
      have z18 : sV S12 4 = x := (s15.v 4 (by decide)).trans z10
      have z19 : sV S12 5 = y := by rw [hS12]; exact uV_self
      clear z10 hM8 hK9 s15 k14 hW5
      exact g_vret hC ⟨S12, hW13, hK17, hM16, z18, z19⟩ (by first | exact Nat.le_of_ble_eq_true rfl | omega | (simp only [gR]; omega)) (by first | exact Nat.le_of_ble_eq_true rfl | omega | (simp only [gR]; omega)) dX7_blame_51
    · exact absurd hv4 c2
  · refine g_iload_n hC dX7_blame_8 rfl ?_
    refine g_aload_n hC dX7_blame_9 rfl ?_
    refine g_get hC fl_X7_46 (hW.o 1 (by decide)) rfl dX7_blame_10 ?_
    refine g_icmp_ne (tgt := 28) hC dX7_blame_13 (by decide) (fun c20 => ?_) (fun c20 => ?_)
    · refine g_iconst (v := 0) hC dX7_blame_28 rfl ?_
      refine g_istore_n (lv' := [some (.ref (gO' Y 1)), some (.int x), some (.int y), some (.int 0)]) hC dX7_blame_29 (Nat.le_of_ble_eq_true rfl) rfl rfl ?_
      refine g_aload_n hC dX7_blame_30 rfl ?_
      refine g_get hC fl_X7_43 (hW.o 1 (by decide)) rfl dX7_blame_31 ?_
      refine g_if_eq (tgt := 41) hC dX7_blame_34 (by decide) (fun c21 => ?_) (fun c21 => ?_)
      · refine g_aload_n hC dX7_blame_41 rfl ?_
        refine g_iload_n hC dX7_blame_42 rfl ?_
        refine g_put hC fl_X7_43 (hW.o 1 (by decide)) rfl rfl (Nat.le_of_ble_eq_true rfl) dX7_blame_43 ?_
        refine g_vF (fun F22 hF22 => ?_)
        obtain ⟨hW24, k25⟩ := gWT.put (k := 4) (x := x) hW (i := 1) (by decide) hF22 rfl gsame_4 (fun q => absurd q (by decide))
        obtain ⟨S23, hS23⟩ : ∃ z, z = uV S 4 x := ⟨_, rfl⟩
        rw [← hS23] at hW24
        have s26 : gSm S S23 [] [4] := by rw [hS23]; exact gSm_uV
        have hM27 : gSm S S23 [] [4, 5] := hM0.tr s26 _ _ rfl rfl
        have hK28 : gKp Y F F22 := hK0.tr k25
        have z29 : sV S23 4 = x := by rw [hS23]; exact uV_self
        clear hM0 hK0 s26 k25 hW
        refine g_aload_n hC dX7_blame_46 rfl ?_
        refine g_iload_n hC dX7_blame_47 rfl ?_
        refine g_put hC fl_X7_46 (hW24.o 1 (by decide)) rfl rfl (Nat.le_of_ble_eq_true rfl) dX7_blame_48 ?_
        refine g_vF (fun F30 hF30 => ?_)
        obtain ⟨hW32, k33⟩ := gWT.put (k := 5) (x := y) hW24 (i := 1) (by decide) hF30 rfl gsame_5 (fun q => absurd q (by decide))
        obtain ⟨S31, hS31⟩ : ∃ z, z = uV S23 5 y := ⟨_, rfl⟩
        rw [← hS31] at hW32
        have s34 : gSm S23 S31 [] [5] := by rw [hS31]; exact gSm_uV
        have hM35 : gSm S S31 [] [4, 5] := hM27.tr s34 _ _ rfl rfl
        have hK36 : gKp Y F F30 := hK28.tr k33
        have z37 : sV S31 4 = x := (s34.v 4 (by decide)).trans z29
        have z38 : sV S31 5 = y := by rw [hS31]; exact uV_self
        clear z29 hM27 hK28 s34 k33 hW24
        exact g_vret hC ⟨S31, hW32, hK36, hM35, z37, z38⟩ (by first | exact Nat.le_of_ble_eq_true rfl | omega | (simp only [gR]; omega)) (by first | exact Nat.le_of_ble_eq_true rfl | omega | (simp only [gR]; omega)) dX7_blame_51
      · exact absurd hv4 c21
    · refine g_iload_n hC dX7_blame_16 rfl ?_
      refine g_aload_n hC dX7_blame_17 rfl ?_
      refine g_get hC fl_X7_43 (hW.o 1 (by decide)) rfl dX7_blame_18 ?_
      refine g_icmp_ge (tgt := 28) hC dX7_blame_21 (by decide) (fun c39 => ?_) (fun c39 => ?_)
      · refine g_iconst (v := 0) hC dX7_blame_28 rfl ?_
        refine g_istore_n (lv' := [some (.ref (gO' Y 1)), some (.int x), some (.int y), some (.int 0)]) hC dX7_blame_29 (Nat.le_of_ble_eq_true rfl) rfl rfl ?_
        refine g_aload_n hC dX7_blame_30 rfl ?_
        refine g_get hC fl_X7_43 (hW.o 1 (by decide)) rfl dX7_blame_31 ?_
        refine g_if_eq (tgt := 41) hC dX7_blame_34 (by decide) (fun c40 => ?_) (fun c40 => ?_)
        · refine g_aload_n hC dX7_blame_41 rfl ?_
          refine g_iload_n hC dX7_blame_42 rfl ?_
          refine g_put hC fl_X7_43 (hW.o 1 (by decide)) rfl rfl (Nat.le_of_ble_eq_true rfl) dX7_blame_43 ?_
          refine g_vF (fun F41 hF41 => ?_)
          obtain ⟨hW43, k44⟩ := gWT.put (k := 4) (x := x) hW (i := 1) (by decide) hF41 rfl gsame_4 (fun q => absurd q (by decide))
          obtain ⟨S42, hS42⟩ : ∃ z, z = uV S 4 x := ⟨_, rfl⟩
          rw [← hS42] at hW43
          have s45 : gSm S S42 [] [4] := by rw [hS42]; exact gSm_uV
          have hM46 : gSm S S42 [] [4, 5] := hM0.tr s45 _ _ rfl rfl
          have hK47 : gKp Y F F41 := hK0.tr k44
          have z48 : sV S42 4 = x := by rw [hS42]; exact uV_self
          clear hM0 hK0 s45 k44 hW
          refine g_aload_n hC dX7_blame_46 rfl ?_
          refine g_iload_n hC dX7_blame_47 rfl ?_
          refine g_put hC fl_X7_46 (hW43.o 1 (by decide)) rfl rfl (Nat.le_of_ble_eq_true rfl) dX7_blame_48 ?_
          refine g_vF (fun F49 hF49 => ?_)
          obtain ⟨hW51, k52⟩ := gWT.put (k := 5) (x := y) hW43 (i := 1) (by decide) hF49 rfl gsame_5 (fun q => absurd q (by decide))
          obtain ⟨S50, hS50⟩ : ∃ z, z = uV S42 5 y := ⟨_, rfl⟩
          rw [← hS50] at hW51
          have s53 : gSm S42 S50 [] [5] := by rw [hS50]; exact gSm_uV
          have hM54 : gSm S S50 [] [4, 5] := hM46.tr s53 _ _ rfl rfl
          have hK55 : gKp Y F F49 := hK47.tr k52
          have z56 : sV S50 4 = x := (s53.v 4 (by decide)).trans z48
          have z57 : sV S50 5 = y := by rw [hS50]; exact uV_self
          clear z48 hM46 hK47 s53 k52 hW43
          exact g_vret hC ⟨S50, hW51, hK55, hM54, z56, z57⟩ (by first | exact Nat.le_of_ble_eq_true rfl | omega | (simp only [gR]; omega)) (by first | exact Nat.le_of_ble_eq_true rfl | omega | (simp only [gR]; omega)) dX7_blame_51
        · exact absurd hv4 c40
      · refine g_iconst (v := 1) hC dX7_blame_24 rfl ?_
        refine g_goto (tgt := 29) hC dX7_blame_25 (by decide) ?_
        refine g_istore_n (lv' := [some (.ref (gO' Y 1)), some (.int x), some (.int y), some (.int 1)]) hC dX7_blame_29 (Nat.le_of_ble_eq_true rfl) rfl rfl ?_
        refine g_aload_n hC dX7_blame_30 rfl ?_
        refine g_get hC fl_X7_43 (hW.o 1 (by decide)) rfl dX7_blame_31 ?_
        refine g_if_eq (tgt := 41) hC dX7_blame_34 (by decide) (fun c58 => ?_) (fun c58 => ?_)
        · refine g_aload_n hC dX7_blame_41 rfl ?_
          refine g_iload_n hC dX7_blame_42 rfl ?_
          refine g_put hC fl_X7_43 (hW.o 1 (by decide)) rfl rfl (Nat.le_of_ble_eq_true rfl) dX7_blame_43 ?_
          refine g_vF (fun F59 hF59 => ?_)
          obtain ⟨hW61, k62⟩ := gWT.put (k := 4) (x := x) hW (i := 1) (by decide) hF59 rfl gsame_4 (fun q => absurd q (by decide))
          obtain ⟨S60, hS60⟩ : ∃ z, z = uV S 4 x := ⟨_, rfl⟩
          rw [← hS60] at hW61
          have s63 : gSm S S60 [] [4] := by rw [hS60]; exact gSm_uV
          have hM64 : gSm S S60 [] [4, 5] := hM0.tr s63 _ _ rfl rfl
          have hK65 : gKp Y F F59 := hK0.tr k62
          have z66 : sV S60 4 = x := by rw [hS60]; exact uV_self
          clear hM0 hK0 s63 k62 hW
          refine g_aload_n hC dX7_blame_46 rfl ?_
          refine g_iload_n hC dX7_blame_47 rfl ?_
          refine g_put hC fl_X7_46 (hW61.o 1 (by decide)) rfl rfl (Nat.le_of_ble_eq_true rfl) dX7_blame_48 ?_
          refine g_vF (fun F67 hF67 => ?_)
          obtain ⟨hW69, k70⟩ := gWT.put (k := 5) (x := y) hW61 (i := 1) (by decide) hF67 rfl gsame_5 (fun q => absurd q (by decide))
          obtain ⟨S68, hS68⟩ : ∃ z, z = uV S60 5 y := ⟨_, rfl⟩
          rw [← hS68] at hW69
          have s71 : gSm S60 S68 [] [5] := by rw [hS68]; exact gSm_uV
          have hM72 : gSm S S68 [] [4, 5] := hM64.tr s71 _ _ rfl rfl
          have hK73 : gKp Y F F67 := hK65.tr k70
          have z74 : sV S68 4 = x := (s71.v 4 (by decide)).trans z66
          have z75 : sV S68 5 = y := by rw [hS68]; exact uV_self
          clear z66 hM64 hK65 s71 k70 hW61
          exact g_vret hC ⟨S68, hW69, hK73, hM72, z74, z75⟩ (by first | exact Nat.le_of_ble_eq_true rfl | omega | (simp only [gR]; omega)) (by first | exact Nat.le_of_ble_eq_true rfl | omega | (simp only [gR]; omega)) dX7_blame_51
        · exact absurd hv4 c58
theorem dX7_judge_0 : decode cX7_judge 0 = .ok (.aload_n 0, 1) := by decide +kernel
theorem dX7_judge_1 : decode cX7_judge 1 = .ok (.invokevirtual 63, 3) := by decide +kernel
theorem dX7_judge_4 : decode cX7_judge 4 = .ok (.bipush 100, 2) := by decide +kernel
theorem dX7_judge_6 : decode cX7_judge 6 = .ok (.isub, 1) := by decide +kernel
theorem dX7_judge_7 : decode cX7_judge 7 = .ok (.sipush 1500, 3) := by decide +kernel
theorem dX7_judge_10 : decode cX7_judge 10 = .ok (.if_icmp .gt 16, 3) := by decide +kernel
theorem dX7_judge_13 : decode cX7_judge 13 = .ok (.aload_n 0, 1) := by decide +kernel
theorem dX7_judge_14 : decode cX7_judge 14 = .ok (.getfield 24, 3) := by decide +kernel
theorem dX7_judge_17 : decode cX7_judge 17 = .ok (.invokevirtual 67, 3) := by decide +kernel
theorem dX7_judge_20 : decode cX7_judge 20 = .ok (.sipush 200, 3) := by decide +kernel
theorem dX7_judge_23 : decode cX7_judge 23 = .ok (.if_icmp .le 7, 3) := by decide +kernel
theorem dX7_judge_26 : decode cX7_judge 26 = .ok (.iconst 1, 1) := by decide +kernel
theorem dX7_judge_27 : decode cX7_judge 27 = .ok (.goto 4, 3) := by decide +kernel
theorem dX7_judge_30 : decode cX7_judge 30 = .ok (.iconst 0, 1) := by decide +kernel
theorem dX7_judge_31 : decode cX7_judge 31 = .ok (.istore_n 1, 1) := by decide +kernel
theorem dX7_judge_32 : decode cX7_judge 32 = .ok (.iconst 0, 1) := by decide +kernel
theorem dX7_judge_33 : decode cX7_judge 33 = .ok (.istore_n 2, 1) := by decide +kernel
theorem dX7_judge_34 : decode cX7_judge 34 = .ok (.iload_n 2, 1) := by decide +kernel
theorem dX7_judge_35 : decode cX7_judge 35 = .ok (.aload_n 0, 1) := by decide +kernel
theorem dX7_judge_36 : decode cX7_judge 36 = .ok (.getfield 30, 3) := by decide +kernel
theorem dX7_judge_39 : decode cX7_judge 39 = .ok (.invokevirtual 67, 3) := by decide +kernel
theorem dX7_judge_42 : decode cX7_judge 42 = .ok (.if_icmp .ge 33, 3) := by decide +kernel
theorem dX7_judge_45 : decode cX7_judge 45 = .ok (.iload_n 1, 1) := by decide +kernel
theorem dX7_judge_46 : decode cX7_judge 46 = .ok (.ifCond .ne 17, 3) := by decide +kernel
theorem dX7_judge_49 : decode cX7_judge 49 = .ok (.aload_n 0, 1) := by decide +kernel
theorem dX7_judge_50 : decode cX7_judge 50 = .ok (.getfield 30, 3) := by decide +kernel
theorem dX7_judge_53 : decode cX7_judge 53 = .ok (.iload_n 2, 1) := by decide +kernel
theorem dX7_judge_54 : decode cX7_judge 54 = .ok (.invokevirtual 70, 3) := by decide +kernel
theorem dX7_judge_57 : decode cX7_judge 57 = .ok (.sipush 32000, 3) := by decide +kernel
theorem dX7_judge_60 : decode cX7_judge 60 = .ok (.if_icmp .le 7, 3) := by decide +kernel
theorem dX7_judge_63 : decode cX7_judge 63 = .ok (.iconst 1, 1) := by decide +kernel
theorem dX7_judge_64 : decode cX7_judge 64 = .ok (.goto 4, 3) := by decide +kernel
theorem dX7_judge_67 : decode cX7_judge 67 = .ok (.iconst 0, 1) := by decide +kernel
theorem dX7_judge_68 : decode cX7_judge 68 = .ok (.istore_n 1, 1) := by decide +kernel
theorem dX7_judge_69 : decode cX7_judge 69 = .ok (.iinc 2 1, 3) := by decide +kernel
theorem dX7_judge_72 : decode cX7_judge 72 = .ok (.goto (-38), 3) := by decide +kernel
theorem dX7_judge_75 : decode cX7_judge 75 = .ok (.aload_n 0, 1) := by decide +kernel
theorem dX7_judge_76 : decode cX7_judge 76 = .ok (.getfield 43, 3) := by decide +kernel
theorem dX7_judge_79 : decode cX7_judge 79 = .ok (.ifCond .ne 21, 3) := by decide +kernel
theorem dX7_judge_82 : decode cX7_judge 82 = .ok (.iload_n 1, 1) := by decide +kernel
theorem dX7_judge_83 : decode cX7_judge 83 = .ok (.ifCond .ne 10, 3) := by decide +kernel
theorem dX7_judge_86 : decode cX7_judge 86 = .ok (.aload_n 0, 1) := by decide +kernel
theorem dX7_judge_87 : decode cX7_judge 87 = .ok (.getfield 40, 3) := by decide +kernel
theorem dX7_judge_90 : decode cX7_judge 90 = .ok (.ifCond .ge 10, 3) := by decide +kernel
theorem dX7_judge_93 : decode cX7_judge 93 = .ok (.aload_n 0, 1) := by decide +kernel
theorem dX7_judge_94 : decode cX7_judge 94 = .ok (.bipush 7, 2) := by decide +kernel
theorem dX7_judge_96 : decode cX7_judge 96 = .ok (.iconst 0, 1) := by decide +kernel
theorem dX7_judge_97 : decode cX7_judge 97 = .ok (.invokevirtual 74, 3) := by decide +kernel
theorem dX7_judge_100 : decode cX7_judge 100 = .ok (.aload_n 0, 1) := by decide +kernel
theorem dX7_judge_101 : decode cX7_judge 101 = .ok (.aload_n 0, 1) := by decide +kernel
theorem dX7_judge_102 : decode cX7_judge 102 = .ok (.getfield 43, 3) := by decide +kernel
theorem dX7_judge_105 : decode cX7_judge 105 = .ok (.ifCond .ne 7, 3) := by decide +kernel
theorem dX7_judge_108 : decode cX7_judge 108 = .ok (.iconst 1, 1) := by decide +kernel
theorem dX7_judge_109 : decode cX7_judge 109 = .ok (.goto 4, 3) := by decide +kernel
theorem dX7_judge_112 : decode cX7_judge 112 = .ok (.iconst 0, 1) := by decide +kernel
theorem dX7_judge_113 : decode cX7_judge 113 = .ok (.putfield 49, 3) := by decide +kernel
theorem dX7_judge_116 : decode cX7_judge 116 = .ok (.return_, 1) := by decide +kernel
set_option maxHeartbeats 4000000 in
set_option maxRecDepth 100000 in
theorem c_P_judge1 (l : Launch) (d : gD) (b : Nat) (Y : gYt) (F : gM) (S : gSt) (hW : gWT d Y F S) (hz2 : sZ S 2 = 100) (hz3 : sZ S 3 = 0) (hz5 : sZ S 5 = 0) (hv4 : sV S 4 = 2) : gMv l d b yX7_judge cX7_judge 3 2 0 0 F [.ref (gO' Y 1)] (fun F' => ∃ S', gWT d Y F' S' ∧ gKp Y F F' ∧ gSm S S' [] [6]) := by
  refine gM_of2 rfl (nL := 3) (Nat.le_of_ble_eq_true rfl) ?_
  intro X hX hC; subst hX
  show gG X d b _ F 0 0 0 [some (.ref (gO' Y 1)), none, none] []
  have hM0 : gSm S S [] [6] := gSm.rf
  have hK0 : gKp Y F F := gKp.rf
  refine g_aload_n hC dX7_judge_0 rfl ?_
  refine g_callVi (As := []) hC rfl (hW.o 1 (by decide)) (c_P_words X.la d b Y F S hW ) cl_X7_63 rfl rfl (Nat.le_of_ble_eq_true rfl) (gFit_of (Nat.le_of_ble_eq_true rfl) (Nat.le_of_ble_eq_true rfl) (by first | exact Nat.le_of_ble_eq_true rfl | omega | (simp only [gR]; omega)) (by first | exact Nat.le_of_ble_eq_true rfl | omega | (simp only [gR]; omega))) dX7_judge_1 (fun r3 F1 p2 => ?_)
  obtain ⟨rfl, eF1⟩ := p2; have eF1 := eF1.symm; subst eF1
  refine g_bipush (v := 100) hC dX7_judge_4 rfl ?_
  refine g_isub hC dX7_judge_6 ?_
  refine g_vi (fun x4 ex4 => ?_)
  refine g_sipush (v := 1500) hC dX7_judge_7 rfl ?_
  refine g_icmp_gt (tgt := 26) hC dX7_judge_10 (by decide) (fun c5 => ?_) (fun c5 => ?_)
  · rw [hz2] at ex4
    subst ex4
    exact absurd c5 (by decide)
  · refine g_aload_n hC dX7_judge_13 rfl ?_
    refine g_get hC fl_X7_24 (hW.o 1 (by decide)) rfl dX7_judge_14 ?_
    refine g_callVi (As := []) hC rfl (hW.r 3 (by decide)).1 (c_Ints_size X.la d b F _ _ _ _ _ _ (hW.r 3 (by decide))) cl_X7_67 rfl rfl (Nat.le_of_ble_eq_true rfl) (gFit_of (Nat.le_of_ble_eq_true rfl) (Nat.le_of_ble_eq_true rfl) (by first | exact Nat.le_of_ble_eq_true rfl | omega | (simp only [gR]; omega)) (by first | exact Nat.le_of_ble_eq_true rfl | omega | (simp only [gR]; omega))) dX7_judge_17 (fun r6 F7 p8 => ?_)
    obtain ⟨rfl, eF7⟩ := p8; have eF7 := eF7.symm; subst eF7
    refine g_sipush (v := 200) hC dX7_judge_20 rfl ?_
    refine g_icmp_le (tgt := 30) hC dX7_judge_23 (by decide) (fun c9 => ?_) (fun c9 => ?_)
    · refine g_iconst (v := 0) hC dX7_judge_30 rfl ?_
      refine g_istore_n (lv' := [some (.ref (gO' Y 1)), some (.int 0), none]) hC dX7_judge_31 (Nat.le_of_ble_eq_true rfl) rfl rfl ?_
      refine g_iconst (v := 0) hC dX7_judge_32 rfl ?_
      refine g_istore_n (lv' := [some (.ref (gO' Y 1)), some (.int 0), some (.int 0)]) hC dX7_judge_33 (Nat.le_of_ble_eq_true rfl) rfl rfl ?_
      refine g_iload_n hC dX7_judge_34 rfl ?_
      refine g_aload_n hC dX7_judge_35 rfl ?_
      refine g_get hC fl_X7_30 (hW.o 1 (by decide)) rfl dX7_judge_36 ?_
      refine g_callVi (As := []) hC rfl (hW.r 5 (by decide)).1 (c_Ints_size X.la d b F _ _ _ _ _ _ (hW.r 5 (by decide))) cl_X7_67 rfl rfl (Nat.le_of_ble_eq_true rfl) (gFit_of (Nat.le_of_ble_eq_true rfl) (Nat.le_of_ble_eq_true rfl) (by first | exact Nat.le_of_ble_eq_true rfl | omega | (simp only [gR]; omega)) (by first | exact Nat.le_of_ble_eq_true rfl | omega | (simp only [gR]; omega))) dX7_judge_39 (fun r10 F11 p12 => ?_)
      obtain ⟨rfl, eF11⟩ := p12; have eF11 := eF11.symm; subst eF11
      refine g_icmp_ge (tgt := 75) hC dX7_judge_42 (by decide) (fun c13 => ?_) (fun c13 => ?_)
      · refine g_aload_n hC dX7_judge_75 rfl ?_
        refine g_get hC fl_X7_43 (hW.o 1 (by decide)) rfl dX7_judge_76 ?_
        refine g_if_ne (tgt := 100) hC dX7_judge_79 (by decide) (fun c14 => ?_) (fun c14 => ?_)
        · refine g_aload_n hC dX7_judge_100 rfl ?_
          refine g_aload_n hC dX7_judge_101 rfl ?_
          refine g_get hC fl_X7_43 (hW.o 1 (by decide)) rfl dX7_judge_102 ?_
          refine g_if_ne (tgt := 112) hC dX7_judge_105 (by decide) (fun c15 => ?_) (fun c15 => ?_)
          · refine g_iconst (v := 0) hC dX7_judge_112 rfl ?_
            refine g_put hC fl_X7_49 (hW.o 1 (by decide)) rfl rfl (Nat.le_of_ble_eq_true rfl) dX7_judge_113 ?_
            refine g_vF (fun F16 hF16 => ?_)
            obtain ⟨hW18, k19⟩ := gWT.put (k := 6) (x := 0) hW (i := 1) (by decide) hF16 rfl gsame_6 (fun _ => by decide)
            obtain ⟨S17, hS17⟩ : ∃ z, z = uV S 6 0 := ⟨_, rfl⟩
            rw [← hS17] at hW18
            have s20 : gSm S S17 [] [6] := by rw [hS17]; exact gSm_uV
            have hM21 : gSm S S17 [] [6] := hM0.tr s20 _ _ rfl rfl
            have hK22 : gKp Y F F16 := hK0.tr k19
            have z23 : sV S17 6 = 0 := by rw [hS17]; exact uV_self
            clear hM0 hK0 s20 k19 hW
            exact g_vret hC ⟨S17, hW18, hK22, hM21⟩ (by first | exact Nat.le_of_ble_eq_true rfl | omega | (simp only [gR]; omega)) (by first | exact Nat.le_of_ble_eq_true rfl | omega | (simp only [gR]; omega)) dX7_judge_116
          · rw [hv4] at c15; exact absurd c15 (by decide)
        · rw [hv4] at c14; exact absurd c14 (by decide)
      · rw [hz5] at c13; exact absurd (by decide) c13
    · rw [hz3] at c9; exact absurd c9 (by decide)
theorem dX10_node_0 : decode cX10_node 0 = .ok (.aload_n 0, 1) := by decide +kernel
theorem dX10_node_1 : decode cX10_node 1 = .ok (.getfield 15, 3) := by decide +kernel
theorem dX10_node_4 : decode cX10_node 4 = .ok (.iload_n 1, 1) := by decide +kernel
theorem dX10_node_5 : decode cX10_node 5 = .ok (.invokevirtual 46, 3) := by decide +kernel
theorem dX10_node_8 : decode cX10_node 8 = .ok (.aload_n 0, 1) := by decide +kernel
theorem dX10_node_9 : decode cX10_node 9 = .ok (.getfield 21, 3) := by decide +kernel
theorem dX10_node_12 : decode cX10_node 12 = .ok (.iload_n 2, 1) := by decide +kernel
theorem dX10_node_13 : decode cX10_node 13 = .ok (.invokevirtual 46, 3) := by decide +kernel
theorem dX10_node_16 : decode cX10_node 16 = .ok (.aload_n 0, 1) := by decide +kernel
theorem dX10_node_17 : decode cX10_node 17 = .ok (.getfield 24, 3) := by decide +kernel
theorem dX10_node_20 : decode cX10_node 20 = .ok (.iload_n 3, 1) := by decide +kernel
theorem dX10_node_21 : decode cX10_node 21 = .ok (.invokevirtual 46, 3) := by decide +kernel
theorem dX10_node_24 : decode cX10_node 24 = .ok (.aload_n 0, 1) := by decide +kernel
theorem dX10_node_25 : decode cX10_node 25 = .ok (.getfield 27, 3) := by decide +kernel
theorem dX10_node_28 : decode cX10_node 28 = .ok (.iconst 0, 1) := by decide +kernel
theorem dX10_node_29 : decode cX10_node 29 = .ok (.invokevirtual 46, 3) := by decide +kernel
theorem dX10_node_32 : decode cX10_node 32 = .ok (.aload_n 0, 1) := by decide +kernel
theorem dX10_node_33 : decode cX10_node 33 = .ok (.getfield 30, 3) := by decide +kernel
theorem dX10_node_36 : decode cX10_node 36 = .ok (.iconst 0, 1) := by decide +kernel
theorem dX10_node_37 : decode cX10_node 37 = .ok (.invokevirtual 46, 3) := by decide +kernel
theorem dX10_node_40 : decode cX10_node 40 = .ok (.aload_n 0, 1) := by decide +kernel
theorem dX10_node_41 : decode cX10_node 41 = .ok (.getfield 33, 3) := by decide +kernel
theorem dX10_node_44 : decode cX10_node 44 = .ok (.iconst 0, 1) := by decide +kernel
theorem dX10_node_45 : decode cX10_node 45 = .ok (.invokevirtual 46, 3) := by decide +kernel
theorem dX10_node_48 : decode cX10_node 48 = .ok (.aload_n 0, 1) := by decide +kernel
theorem dX10_node_49 : decode cX10_node 49 = .ok (.getfield 36, 3) := by decide +kernel
theorem dX10_node_52 : decode cX10_node 52 = .ok (.iconst 0, 1) := by decide +kernel
theorem dX10_node_53 : decode cX10_node 53 = .ok (.invokevirtual 46, 3) := by decide +kernel
theorem dX10_node_56 : decode cX10_node 56 = .ok (.aload_n 0, 1) := by decide +kernel
theorem dX10_node_57 : decode cX10_node 57 = .ok (.getfield 15, 3) := by decide +kernel
theorem dX10_node_60 : decode cX10_node 60 = .ok (.invokevirtual 49, 3) := by decide +kernel
theorem dX10_node_63 : decode cX10_node 63 = .ok (.iconst 1, 1) := by decide +kernel
theorem dX10_node_64 : decode cX10_node 64 = .ok (.isub, 1) := by decide +kernel
theorem dX10_node_65 : decode cX10_node 65 = .ok (.ireturn, 1) := by decide +kernel
set_option maxHeartbeats 4000000 in
set_option maxRecDepth 100000 in
theorem c_T_node (l : Launch) (d : gD) (b : Nat) (Y : gYt) (F : gM) (S : gSt) (hW : gWT d Y F S) (x y u : Int32) (z : Nat) (hl : z < 15) (hz7 : sZ S 7 = z) (hn7 : sN S 7 = 16) (hz8 : sZ S 8 = z) (hn8 : sN S 8 = 16) (hz9 : sZ S 9 = z) (hn9 : sN S 9 = 16) (hz10 : sZ S 10 = z) (hn10 : sN S 10 = 16) (hz11 : sZ S 11 = z) (hn11 : sN S 11 = 16) (hz12 : sZ S 12 = z) (hn12 : sN S 12 = 16) (hz13 : sZ S 13 = z) (hn13 : sN S 13 = 16) : gMi l d b yX10_node cX10_node 4 .int 3 0 0 F [.ref (gO' Y 2), .int x, .int y, .int u] (fun r F' => ∃ S', gWT d Y F' S' ∧ gKp Y F F' ∧ gSm S S' [7, 8, 9, 10, 11, 12, 13] [] ∧ sZ S' 7 = z + 1 ∧ sZ S' 8 = z + 1 ∧ sZ S' 9 = z + 1 ∧ sZ S' 10 = z + 1 ∧ sZ S' 11 = z + 1 ∧ sZ S' 12 = z + 1 ∧ sZ S' 13 = z + 1 ∧ sN S' 7 = 16 ∧ sN S' 8 = 16 ∧ sN S' 9 = 16 ∧ sN S' 10 = 16 ∧ sN S' 11 = 16 ∧ sN S' 12 = 16 ∧ sN S' 13 = 16) := by
  refine gM_of2 rfl (nL := 4) (Nat.le_of_ble_eq_true rfl) ?_
  intro X hX hC; subst hX
  show gG X d b _ F 0 0 0 [some (.ref (gO' Y 2)), some (.int x), some (.int y), some (.int u)] []
  have hM0 : gSm S S [7, 8, 9, 10, 11, 12, 13] [] := gSm.rf
  have hK0 : gKp Y F F := gKp.rf
  refine g_aload_n hC dX10_node_0 rfl ?_
  refine g_get hC fl_X10_15 (hW.o 2 (by decide)) rfl dX10_node_1 ?_
  refine g_iload_n hC dX10_node_4 rfl ?_
  have z4 : gAc (sN S 7) (sZ S 7) = 0 := gAc0 (by rw [hz7, hn7]; exact (Nat.lt_succ_of_lt hl))
  have z5 : gAs (gmo 7) (sN S 7) (sZ S 7) = 0 := gAs0 (by rw [hz7, hn7]; exact (Nat.lt_succ_of_lt hl))
  refine g_callVv (As := [.int x]) hC rfl (hW.r 7 (by decide)).1 (c_Ints_add X.la d b F _ _ _ _ _ _ (hW.r 7 (by decide)) x) cl_X10_46 rfl rfl (Nat.le_of_ble_eq_true rfl) (gFit_add (Nat.le_of_ble_eq_true rfl) (Nat.le_of_ble_eq_true rfl) z4 z5 (Nat.le_of_ble_eq_true rfl) (Nat.le_of_ble_eq_true rfl)) dX10_node_5 (fun F2 p3 => ?_)
  refine g_kn (k2 := 0) (n2 := 0) (by rw [z4]) (by rw [z5]) ?_
  obtain ⟨S6, hW7, k8, s9, a10, -⟩ := wt_add hW (by decide) p3
  have a10 := a10 (by rw [hz7]; exact Nat.lt_of_lt_of_le (Nat.lt_of_lt_of_le hl (by decide)) (w_mo 7))
  have hM11 : gSm S S6 [7, 8, 9, 10, 11, 12, 13] [] := hM0.tr s9 _ _ rfl rfl
  have hK12 : gKp Y F F2 := hK0.tr k8
  have z13 : sZ S6 8 = z := (s9.z 8 (by decide)).trans hz8
  have z14 : sN S6 8 = 16 := (s9.n 8 (by decide)).trans hn8
  have z15 : sZ S6 9 = z := (s9.z 9 (by decide)).trans hz9
  have z16 : sN S6 9 = 16 := (s9.n 9 (by decide)).trans hn9
  have z17 : sZ S6 10 = z := (s9.z 10 (by decide)).trans hz10
  have z18 : sN S6 10 = 16 := (s9.n 10 (by decide)).trans hn10
  have z19 : sZ S6 11 = z := (s9.z 11 (by decide)).trans hz11
  have z20 : sN S6 11 = 16 := (s9.n 11 (by decide)).trans hn11
  have z21 : sZ S6 12 = z := (s9.z 12 (by decide)).trans hz12
  have z22 : sN S6 12 = 16 := (s9.n 12 (by decide)).trans hn12
  have z23 : sZ S6 13 = z := (s9.z 13 (by decide)).trans hz13
  have z24 : sN S6 13 = 16 := (s9.n 13 (by decide)).trans hn13
  have z25 : sZ S6 7 = (z + 1) := by rw [a10.1, hz7]
  have z26 : sN S6 7 = 16 := by rw [a10.2.1, gAn0 (by rw [hz7, hn7]; exact (Nat.lt_succ_of_lt hl)), hn7]
  clear hz7 hn7 hz8 hn8 hz9 hn9 hz10 hn10 hz11 hn11 hz12 hn12 hz13 hn13 hM0 hK0 s9 k8 hW a10 z4 z5 p3
  refine g_aload_n hC dX10_node_8 rfl ?_
  refine g_get hC fl_X10_21 (hW7.o 2 (by decide)) rfl dX10_node_9 ?_
  refine g_iload_n hC dX10_node_12 rfl ?_
  have z30 : gAc (sN S6 8) (sZ S6 8) = 0 := gAc0 (by rw [z13, z14]; exact (Nat.lt_succ_of_lt hl))
  have z31 : gAs (gmo 8) (sN S6 8) (sZ S6 8) = 0 := gAs0 (by rw [z13, z14]; exact (Nat.lt_succ_of_lt hl))
  refine g_callVv (As := [.int y]) hC rfl (hW7.r 8 (by decide)).1 (c_Ints_add X.la d b F2 _ _ _ _ _ _ (hW7.r 8 (by decide)) y) cl_X10_46 rfl rfl (Nat.le_of_ble_eq_true rfl) (gFit_add (Nat.le_of_ble_eq_true rfl) (Nat.le_of_ble_eq_true rfl) z30 z31 (Nat.le_of_ble_eq_true rfl) (Nat.le_of_ble_eq_true rfl)) dX10_node_13 (fun F28 p29 => ?_)
  refine g_kn (k2 := 0) (n2 := 0) (by rw [z30]) (by rw [z31]) ?_
  obtain ⟨S32, hW33, k34, s35, a36, -⟩ := wt_add hW7 (by decide) p29
  have a36 := a36 (by rw [z13]; exact Nat.lt_of_lt_of_le (Nat.lt_of_lt_of_le hl (by decide)) (w_mo 8))
  have hM37 : gSm S S32 [7, 8, 9, 10, 11, 12, 13] [] := hM11.tr s35 _ _ rfl rfl
  have hK38 : gKp Y F F28 := hK12.tr k34
  have z39 : sZ S32 9 = z := (s35.z 9 (by decide)).trans z15
  have z40 : sN S32 9 = 16 := (s35.n 9 (by decide)).trans z16
  have z41 : sZ S32 10 = z := (s35.z 10 (by decide)).trans z17
  have z42 : sN S32 10 = 16 := (s35.n 10 (by decide)).trans z18
  have z43 : sZ S32 11 = z := (s35.z 11 (by decide)).trans z19
  have z44 : sN S32 11 = 16 := (s35.n 11 (by decide)).trans z20
  have z45 : sZ S32 12 = z := (s35.z 12 (by decide)).trans z21
  have z46 : sN S32 12 = 16 := (s35.n 12 (by decide)).trans z22
  have z47 : sZ S32 13 = z := (s35.z 13 (by decide)).trans z23
  have z48 : sN S32 13 = 16 := (s35.n 13 (by decide)).trans z24
  have z49 : sZ S32 7 = (z + 1) := (s35.z 7 (by decide)).trans z25
  have z50 : sN S32 7 = 16 := (s35.n 7 (by decide)).trans z26
  have z51 : sZ S32 8 = (z + 1) := by rw [a36.1, z13]
  have z52 : sN S32 8 = 16 := by rw [a36.2.1, gAn0 (by rw [z13, z14]; exact (Nat.lt_succ_of_lt hl)), z14]
  clear z13 z14 z15 z16 z17 z18 z19 z20 z21 z22 z23 z24 z25 z26 hM11 hK12 s35 k34 hW7 a36 z30 z31 p29
  refine g_aload_n hC dX10_node_16 rfl ?_
  refine g_get hC fl_X10_24 (hW33.o 2 (by decide)) rfl dX10_node_17 ?_
  refine g_iload_n hC dX10_node_20 rfl ?_
  have z56 : gAc (sN S32 9) (sZ S32 9) = 0 := gAc0 (by rw [z39, z40]; exact (Nat.lt_succ_of_lt hl))
  have z57 : gAs (gmo 9) (sN S32 9) (sZ S32 9) = 0 := gAs0 (by rw [z39, z40]; exact (Nat.lt_succ_of_lt hl))
  refine g_callVv (As := [.int u]) hC rfl (hW33.r 9 (by decide)).1 (c_Ints_add X.la d b F28 _ _ _ _ _ _ (hW33.r 9 (by decide)) u) cl_X10_46 rfl rfl (Nat.le_of_ble_eq_true rfl) (gFit_add (Nat.le_of_ble_eq_true rfl) (Nat.le_of_ble_eq_true rfl) z56 z57 (Nat.le_of_ble_eq_true rfl) (Nat.le_of_ble_eq_true rfl)) dX10_node_21 (fun F54 p55 => ?_)
  refine g_kn (k2 := 0) (n2 := 0) (by rw [z56]) (by rw [z57]) ?_
  obtain ⟨S58, hW59, k60, s61, a62, -⟩ := wt_add hW33 (by decide) p55
  have a62 := a62 (by rw [z39]; exact Nat.lt_of_lt_of_le (Nat.lt_of_lt_of_le hl (by decide)) (w_mo 9))
  have hM63 : gSm S S58 [7, 8, 9, 10, 11, 12, 13] [] := hM37.tr s61 _ _ rfl rfl
  have hK64 : gKp Y F F54 := hK38.tr k60
  have z65 : sZ S58 10 = z := (s61.z 10 (by decide)).trans z41
  have z66 : sN S58 10 = 16 := (s61.n 10 (by decide)).trans z42
  have z67 : sZ S58 11 = z := (s61.z 11 (by decide)).trans z43
  have z68 : sN S58 11 = 16 := (s61.n 11 (by decide)).trans z44
  have z69 : sZ S58 12 = z := (s61.z 12 (by decide)).trans z45
  have z70 : sN S58 12 = 16 := (s61.n 12 (by decide)).trans z46
  have z71 : sZ S58 13 = z := (s61.z 13 (by decide)).trans z47
  have z72 : sN S58 13 = 16 := (s61.n 13 (by decide)).trans z48
  have z73 : sZ S58 7 = (z + 1) := (s61.z 7 (by decide)).trans z49
  have z74 : sN S58 7 = 16 := (s61.n 7 (by decide)).trans z50
  have z75 : sZ S58 8 = (z + 1) := (s61.z 8 (by decide)).trans z51
  have z76 : sN S58 8 = 16 := (s61.n 8 (by decide)).trans z52
  have z77 : sZ S58 9 = (z + 1) := by rw [a62.1, z39]
  have z78 : sN S58 9 = 16 := by rw [a62.2.1, gAn0 (by rw [z39, z40]; exact (Nat.lt_succ_of_lt hl)), z40]
  clear z39 z40 z41 z42 z43 z44 z45 z46 z47 z48 z49 z50 z51 z52 hM37 hK38 s61 k60 hW33 a62 z56 z57 p55
  refine g_aload_n hC dX10_node_24 rfl ?_
  refine g_get hC fl_X10_27 (hW59.o 2 (by decide)) rfl dX10_node_25 ?_
  refine g_iconst (v := 0) hC dX10_node_28 rfl ?_
  have z82 : gAc (sN S58 10) (sZ S58 10) = 0 := gAc0 (by rw [z65, z66]; exact (Nat.lt_succ_of_lt hl))
  have z83 : gAs (gmo 10) (sN S58 10) (sZ S58 10) = 0 := gAs0 (by rw [z65, z66]; exact (Nat.lt_succ_of_lt hl))
  refine g_callVv (As := [.int 0]) hC rfl (hW59.r 10 (by decide)).1 (c_Ints_add X.la d b F54 _ _ _ _ _ _ (hW59.r 10 (by decide)) 0) cl_X10_46 rfl rfl (Nat.le_of_ble_eq_true rfl) (gFit_add (Nat.le_of_ble_eq_true rfl) (Nat.le_of_ble_eq_true rfl) z82 z83 (Nat.le_of_ble_eq_true rfl) (Nat.le_of_ble_eq_true rfl)) dX10_node_29 (fun F80 p81 => ?_)
  refine g_kn (k2 := 0) (n2 := 0) (by rw [z82]) (by rw [z83]) ?_
  obtain ⟨S84, hW85, k86, s87, a88, -⟩ := wt_add hW59 (by decide) p81
  have a88 := a88 (by rw [z65]; exact Nat.lt_of_lt_of_le (Nat.lt_of_lt_of_le hl (by decide)) (w_mo 10))
  have hM89 : gSm S S84 [7, 8, 9, 10, 11, 12, 13] [] := hM63.tr s87 _ _ rfl rfl
  have hK90 : gKp Y F F80 := hK64.tr k86
  have z91 : sZ S84 11 = z := (s87.z 11 (by decide)).trans z67
  have z92 : sN S84 11 = 16 := (s87.n 11 (by decide)).trans z68
  have z93 : sZ S84 12 = z := (s87.z 12 (by decide)).trans z69
  have z94 : sN S84 12 = 16 := (s87.n 12 (by decide)).trans z70
  have z95 : sZ S84 13 = z := (s87.z 13 (by decide)).trans z71
  have z96 : sN S84 13 = 16 := (s87.n 13 (by decide)).trans z72
  have z97 : sZ S84 7 = (z + 1) := (s87.z 7 (by decide)).trans z73
  have z98 : sN S84 7 = 16 := (s87.n 7 (by decide)).trans z74
  have z99 : sZ S84 8 = (z + 1) := (s87.z 8 (by decide)).trans z75
  have z100 : sN S84 8 = 16 := (s87.n 8 (by decide)).trans z76
  have z101 : sZ S84 9 = (z + 1) := (s87.z 9 (by decide)).trans z77
  have z102 : sN S84 9 = 16 := (s87.n 9 (by decide)).trans z78
  have z103 : sZ S84 10 = (z + 1) := by rw [a88.1, z65]
  have z104 : sN S84 10 = 16 := by rw [a88.2.1, gAn0 (by rw [z65, z66]; exact (Nat.lt_succ_of_lt hl)), z66]
  clear z65 z66 z67 z68 z69 z70 z71 z72 z73 z74 z75 z76 z77 z78 hM63 hK64 s87 k86 hW59 a88 z82 z83 p81
  refine g_aload_n hC dX10_node_32 rfl ?_
  refine g_get hC fl_X10_30 (hW85.o 2 (by decide)) rfl dX10_node_33 ?_
  refine g_iconst (v := 0) hC dX10_node_36 rfl ?_
  have z108 : gAc (sN S84 11) (sZ S84 11) = 0 := gAc0 (by rw [z91, z92]; exact (Nat.lt_succ_of_lt hl))
  have z109 : gAs (gmo 11) (sN S84 11) (sZ S84 11) = 0 := gAs0 (by rw [z91, z92]; exact (Nat.lt_succ_of_lt hl))
  refine g_callVv (As := [.int 0]) hC rfl (hW85.r 11 (by decide)).1 (c_Ints_add X.la d b F80 _ _ _ _ _ _ (hW85.r 11 (by decide)) 0) cl_X10_46 rfl rfl (Nat.le_of_ble_eq_true rfl) (gFit_add (Nat.le_of_ble_eq_true rfl) (Nat.le_of_ble_eq_true rfl) z108 z109 (Nat.le_of_ble_eq_true rfl) (Nat.le_of_ble_eq_true rfl)) dX10_node_37 (fun F106 p107 => ?_)
  refine g_kn (k2 := 0) (n2 := 0) (by rw [z108]) (by rw [z109]) ?_
  obtain ⟨S110, hW111, k112, s113, a114, -⟩ := wt_add hW85 (by decide) p107
  have a114 := a114 (by rw [z91]; exact Nat.lt_of_lt_of_le (Nat.lt_of_lt_of_le hl (by decide)) (w_mo 11))
  have hM115 : gSm S S110 [7, 8, 9, 10, 11, 12, 13] [] := hM89.tr s113 _ _ rfl rfl
  have hK116 : gKp Y F F106 := hK90.tr k112
  have z117 : sZ S110 12 = z := (s113.z 12 (by decide)).trans z93
  have z118 : sN S110 12 = 16 := (s113.n 12 (by decide)).trans z94
  have z119 : sZ S110 13 = z := (s113.z 13 (by decide)).trans z95
  have z120 : sN S110 13 = 16 := (s113.n 13 (by decide)).trans z96
  have z121 : sZ S110 7 = (z + 1) := (s113.z 7 (by decide)).trans z97
  have z122 : sN S110 7 = 16 := (s113.n 7 (by decide)).trans z98
  have z123 : sZ S110 8 = (z + 1) := (s113.z 8 (by decide)).trans z99
  have z124 : sN S110 8 = 16 := (s113.n 8 (by decide)).trans z100
  have z125 : sZ S110 9 = (z + 1) := (s113.z 9 (by decide)).trans z101
  have z126 : sN S110 9 = 16 := (s113.n 9 (by decide)).trans z102
  have z127 : sZ S110 10 = (z + 1) := (s113.z 10 (by decide)).trans z103
  have z128 : sN S110 10 = 16 := (s113.n 10 (by decide)).trans z104
  have z129 : sZ S110 11 = (z + 1) := by rw [a114.1, z91]
  have z130 : sN S110 11 = 16 := by rw [a114.2.1, gAn0 (by rw [z91, z92]; exact (Nat.lt_succ_of_lt hl)), z92]
  clear z91 z92 z93 z94 z95 z96 z97 z98 z99 z100 z101 z102 z103 z104 hM89 hK90 s113 k112 hW85 a114 z108 z109 p107
  refine g_aload_n hC dX10_node_40 rfl ?_
  refine g_get hC fl_X10_33 (hW111.o 2 (by decide)) rfl dX10_node_41 ?_
  refine g_iconst (v := 0) hC dX10_node_44 rfl ?_
  have z134 : gAc (sN S110 12) (sZ S110 12) = 0 := gAc0 (by rw [z117, z118]; exact (Nat.lt_succ_of_lt hl))
  have z135 : gAs (gmo 12) (sN S110 12) (sZ S110 12) = 0 := gAs0 (by rw [z117, z118]; exact (Nat.lt_succ_of_lt hl))
  refine g_callVv (As := [.int 0]) hC rfl (hW111.r 12 (by decide)).1 (c_Ints_add X.la d b F106 _ _ _ _ _ _ (hW111.r 12 (by decide)) 0) cl_X10_46 rfl rfl (Nat.le_of_ble_eq_true rfl) (gFit_add (Nat.le_of_ble_eq_true rfl) (Nat.le_of_ble_eq_true rfl) z134 z135 (Nat.le_of_ble_eq_true rfl) (Nat.le_of_ble_eq_true rfl)) dX10_node_45 (fun F132 p133 => ?_)
  refine g_kn (k2 := 0) (n2 := 0) (by rw [z134]) (by rw [z135]) ?_
  obtain ⟨S136, hW137, k138, s139, a140, -⟩ := wt_add hW111 (by decide) p133
  have a140 := a140 (by rw [z117]; exact Nat.lt_of_lt_of_le (Nat.lt_of_lt_of_le hl (by decide)) (w_mo 12))
  have hM141 : gSm S S136 [7, 8, 9, 10, 11, 12, 13] [] := hM115.tr s139 _ _ rfl rfl
  have hK142 : gKp Y F F132 := hK116.tr k138
  have z143 : sZ S136 13 = z := (s139.z 13 (by decide)).trans z119
  have z144 : sN S136 13 = 16 := (s139.n 13 (by decide)).trans z120
  have z145 : sZ S136 7 = (z + 1) := (s139.z 7 (by decide)).trans z121
  have z146 : sN S136 7 = 16 := (s139.n 7 (by decide)).trans z122
  have z147 : sZ S136 8 = (z + 1) := (s139.z 8 (by decide)).trans z123
  have z148 : sN S136 8 = 16 := (s139.n 8 (by decide)).trans z124
  have z149 : sZ S136 9 = (z + 1) := (s139.z 9 (by decide)).trans z125
  have z150 : sN S136 9 = 16 := (s139.n 9 (by decide)).trans z126
  have z151 : sZ S136 10 = (z + 1) := (s139.z 10 (by decide)).trans z127
  have z152 : sN S136 10 = 16 := (s139.n 10 (by decide)).trans z128
  have z153 : sZ S136 11 = (z + 1) := (s139.z 11 (by decide)).trans z129
  have z154 : sN S136 11 = 16 := (s139.n 11 (by decide)).trans z130
  have z155 : sZ S136 12 = (z + 1) := by rw [a140.1, z117]
  have z156 : sN S136 12 = 16 := by rw [a140.2.1, gAn0 (by rw [z117, z118]; exact (Nat.lt_succ_of_lt hl)), z118]
  clear z117 z118 z119 z120 z121 z122 z123 z124 z125 z126 z127 z128 z129 z130 hM115 hK116 s139 k138 hW111 a140 z134 z135 p133
  refine g_aload_n hC dX10_node_48 rfl ?_
  refine g_get hC fl_X10_36 (hW137.o 2 (by decide)) rfl dX10_node_49 ?_
  refine g_iconst (v := 0) hC dX10_node_52 rfl ?_
  have z160 : gAc (sN S136 13) (sZ S136 13) = 0 := gAc0 (by rw [z143, z144]; exact (Nat.lt_succ_of_lt hl))
  have z161 : gAs (gmo 13) (sN S136 13) (sZ S136 13) = 0 := gAs0 (by rw [z143, z144]; exact (Nat.lt_succ_of_lt hl))
  refine g_callVv (As := [.int 0]) hC rfl (hW137.r 13 (by decide)).1 (c_Ints_add X.la d b F132 _ _ _ _ _ _ (hW137.r 13 (by decide)) 0) cl_X10_46 rfl rfl (Nat.le_of_ble_eq_true rfl) (gFit_add (Nat.le_of_ble_eq_true rfl) (Nat.le_of_ble_eq_true rfl) z160 z161 (Nat.le_of_ble_eq_true rfl) (Nat.le_of_ble_eq_true rfl)) dX10_node_53 (fun F158 p159 => ?_)
  refine g_kn (k2 := 0) (n2 := 0) (by rw [z160]) (by rw [z161]) ?_
  obtain ⟨S162, hW163, k164, s165, a166, -⟩ := wt_add hW137 (by decide) p159
  have a166 := a166 (by rw [z143]; exact Nat.lt_of_lt_of_le (Nat.lt_of_lt_of_le hl (by decide)) (w_mo 13))
  have hM167 : gSm S S162 [7, 8, 9, 10, 11, 12, 13] [] := hM141.tr s165 _ _ rfl rfl
  have hK168 : gKp Y F F158 := hK142.tr k164
  have z169 : sZ S162 7 = (z + 1) := (s165.z 7 (by decide)).trans z145
  have z170 : sN S162 7 = 16 := (s165.n 7 (by decide)).trans z146
  have z171 : sZ S162 8 = (z + 1) := (s165.z 8 (by decide)).trans z147
  have z172 : sN S162 8 = 16 := (s165.n 8 (by decide)).trans z148
  have z173 : sZ S162 9 = (z + 1) := (s165.z 9 (by decide)).trans z149
  have z174 : sN S162 9 = 16 := (s165.n 9 (by decide)).trans z150
  have z175 : sZ S162 10 = (z + 1) := (s165.z 10 (by decide)).trans z151
  have z176 : sN S162 10 = 16 := (s165.n 10 (by decide)).trans z152
  have z177 : sZ S162 11 = (z + 1) := (s165.z 11 (by decide)).trans z153
  have z178 : sN S162 11 = 16 := (s165.n 11 (by decide)).trans z154
  have z179 : sZ S162 12 = (z + 1) := (s165.z 12 (by decide)).trans z155
  have z180 : sN S162 12 = 16 := (s165.n 12 (by decide)).trans z156
  have z181 : sZ S162 13 = (z + 1) := by rw [a166.1, z143]
  have z182 : sN S162 13 = 16 := by rw [a166.2.1, gAn0 (by rw [z143, z144]; exact (Nat.lt_succ_of_lt hl)), z144]
  clear z143 z144 z145 z146 z147 z148 z149 z150 z151 z152 z153 z154 z155 z156 hM141 hK142 s165 k164 hW137 a166 z160 z161 p159
  refine g_aload_n hC dX10_node_56 rfl ?_
  refine g_get hC fl_X10_15 (hW163.o 2 (by decide)) rfl dX10_node_57 ?_
  refine g_callVi (As := []) hC rfl (hW163.r 7 (by decide)).1 (c_Ints_size X.la d b F158 _ _ _ _ _ _ (hW163.r 7 (by decide))) cl_X10_49 rfl rfl (Nat.le_of_ble_eq_true rfl) (gFit_of (Nat.le_of_ble_eq_true rfl) (Nat.le_of_ble_eq_true rfl) (by first | exact Nat.le_of_ble_eq_true rfl | omega | (simp only [gR]; omega)) (by first | exact Nat.le_of_ble_eq_true rfl | omega | (simp only [gR]; omega))) dX10_node_60 (fun r183 F184 p185 => ?_)
  obtain ⟨rfl, eF184⟩ := p185; have eF184 := eF184.symm; subst eF184
  refine g_iconst (v := 1) hC dX10_node_63 rfl ?_
  refine g_isub hC dX10_node_64 ?_
  refine g_vi (fun x186 ex186 => ?_)
  exact g_iret hC rfl ⟨S162, hW163, hK168, hM167, z169, z171, z173, z175, z177, z179, z181, z170, z172, z174, z176, z178, z180, z182⟩ (by first | exact Nat.le_of_ble_eq_true rfl | omega | (simp only [gR]; omega)) (by first | exact Nat.le_of_ble_eq_true rfl | omega | (simp only [gR]; omega)) dX10_node_65
theorem dX10_clear_0 : decode cX10_clear 0 = .ok (.aload_n 0, 1) := by decide +kernel
theorem dX10_clear_1 : decode cX10_clear 1 = .ok (.getfield 15, 3) := by decide +kernel
theorem dX10_clear_4 : decode cX10_clear 4 = .ok (.iconst 0, 1) := by decide +kernel
theorem dX10_clear_5 : decode cX10_clear 5 = .ok (.invokevirtual 39, 3) := by decide +kernel
theorem dX10_clear_8 : decode cX10_clear 8 = .ok (.aload_n 0, 1) := by decide +kernel
theorem dX10_clear_9 : decode cX10_clear 9 = .ok (.getfield 21, 3) := by decide +kernel
theorem dX10_clear_12 : decode cX10_clear 12 = .ok (.iconst 0, 1) := by decide +kernel
theorem dX10_clear_13 : decode cX10_clear 13 = .ok (.invokevirtual 39, 3) := by decide +kernel
theorem dX10_clear_16 : decode cX10_clear 16 = .ok (.aload_n 0, 1) := by decide +kernel
theorem dX10_clear_17 : decode cX10_clear 17 = .ok (.getfield 24, 3) := by decide +kernel
theorem dX10_clear_20 : decode cX10_clear 20 = .ok (.iconst 0, 1) := by decide +kernel
theorem dX10_clear_21 : decode cX10_clear 21 = .ok (.invokevirtual 39, 3) := by decide +kernel
theorem dX10_clear_24 : decode cX10_clear 24 = .ok (.aload_n 0, 1) := by decide +kernel
theorem dX10_clear_25 : decode cX10_clear 25 = .ok (.getfield 27, 3) := by decide +kernel
theorem dX10_clear_28 : decode cX10_clear 28 = .ok (.iconst 0, 1) := by decide +kernel
theorem dX10_clear_29 : decode cX10_clear 29 = .ok (.invokevirtual 39, 3) := by decide +kernel
theorem dX10_clear_32 : decode cX10_clear 32 = .ok (.aload_n 0, 1) := by decide +kernel
theorem dX10_clear_33 : decode cX10_clear 33 = .ok (.getfield 30, 3) := by decide +kernel
theorem dX10_clear_36 : decode cX10_clear 36 = .ok (.iconst 0, 1) := by decide +kernel
theorem dX10_clear_37 : decode cX10_clear 37 = .ok (.invokevirtual 39, 3) := by decide +kernel
theorem dX10_clear_40 : decode cX10_clear 40 = .ok (.aload_n 0, 1) := by decide +kernel
theorem dX10_clear_41 : decode cX10_clear 41 = .ok (.getfield 33, 3) := by decide +kernel
theorem dX10_clear_44 : decode cX10_clear 44 = .ok (.iconst 0, 1) := by decide +kernel
theorem dX10_clear_45 : decode cX10_clear 45 = .ok (.invokevirtual 39, 3) := by decide +kernel
theorem dX10_clear_48 : decode cX10_clear 48 = .ok (.aload_n 0, 1) := by decide +kernel
theorem dX10_clear_49 : decode cX10_clear 49 = .ok (.getfield 36, 3) := by decide +kernel
theorem dX10_clear_52 : decode cX10_clear 52 = .ok (.iconst 0, 1) := by decide +kernel
theorem dX10_clear_53 : decode cX10_clear 53 = .ok (.invokevirtual 39, 3) := by decide +kernel
theorem dX10_clear_56 : decode cX10_clear 56 = .ok (.aload_n 0, 1) := by decide +kernel
theorem dX10_clear_57 : decode cX10_clear 57 = .ok (.iconst 0, 1) := by decide +kernel
theorem dX10_clear_58 : decode cX10_clear 58 = .ok (.iconst 0, 1) := by decide +kernel
theorem dX10_clear_59 : decode cX10_clear 59 = .ok (.iconst 0, 1) := by decide +kernel
theorem dX10_clear_60 : decode cX10_clear 60 = .ok (.invokevirtual 42, 3) := by decide +kernel
theorem dX10_clear_63 : decode cX10_clear 63 = .ok (.pop, 1) := by decide +kernel
theorem dX10_clear_64 : decode cX10_clear 64 = .ok (.return_, 1) := by decide +kernel
set_option maxHeartbeats 4000000 in
set_option maxRecDepth 100000 in
theorem c_T_clear (l : Launch) (d : gD) (b : Nat) (Y : gYt) (F : gM) (S : gSt) (hW : gWT d Y F S) (hz7 : sZ S 7 = 0) (hn7 : sN S 7 = 16) (hz8 : sZ S 8 = 0) (hn8 : sN S 8 = 16) (hz9 : sZ S 9 = 0) (hn9 : sN S 9 = 16) (hz10 : sZ S 10 = 0) (hn10 : sN S 10 = 16) (hz11 : sZ S 11 = 0) (hn11 : sN S 11 = 16) (hz12 : sZ S 12 = 0) (hn12 : sN S 12 = 16) (hz13 : sZ S 13 = 0) (hn13 : sN S 13 = 16) : gMv l d b yX10_clear cX10_clear 1 4 0 0 F [.ref (gO' Y 2)] (fun F' => ∃ S', gWT d Y F' S' ∧ gKp Y F F' ∧ gSm S S' [7, 8, 9, 10, 11, 12, 13] [] ∧ sZ S' 7 = 1 ∧ sZ S' 8 = 1 ∧ sZ S' 9 = 1 ∧ sZ S' 10 = 1 ∧ sZ S' 11 = 1 ∧ sZ S' 12 = 1 ∧ sZ S' 13 = 1 ∧ sN S' 7 = 16 ∧ sN S' 8 = 16 ∧ sN S' 9 = 16 ∧ sN S' 10 = 16 ∧ sN S' 11 = 16 ∧ sN S' 12 = 16 ∧ sN S' 13 = 16) := by
  refine gM_of2 rfl (nL := 1) (Nat.le_of_ble_eq_true rfl) ?_
  intro X hX hC; subst hX
  show gG X d b _ F 0 0 0 [some (.ref (gO' Y 2))] []
  have hM0 : gSm S S [7, 8, 9, 10, 11, 12, 13] [] := gSm.rf
  have hK0 : gKp Y F F := gKp.rf
  refine g_aload_n hC dX10_clear_0 rfl ?_
  refine g_get hC fl_X10_15 (hW.o 2 (by decide)) rfl dX10_clear_1 ?_
  refine g_iconst (v := 0) hC dX10_clear_4 rfl ?_
  refine g_callVv (As := [.int 0]) hC rfl (hW.r 7 (by decide)).1 (c_Ints_cut X.la d b F _ _ _ _ _ _ (hW.r 7 (by decide)) 0) cl_X10_39 rfl rfl (Nat.le_of_ble_eq_true rfl) (gFit_of (Nat.le_of_ble_eq_true rfl) (Nat.le_of_ble_eq_true rfl) (by first | exact Nat.le_of_ble_eq_true rfl | omega | (simp only [gR]; omega)) (by first | exact Nat.le_of_ble_eq_true rfl | omega | (simp only [gR]; omega))) dX10_clear_5 (fun F2 p3 => ?_)
  obtain ⟨S4, hW5, k6, s7, u8, u9, u10, u11, u12⟩ := wt_cut hW (by decide) p3
  have hM13 : gSm S S4 [7, 8, 9, 10, 11, 12, 13] [] := hM0.tr s7 _ _ rfl rfl
  have hK14 : gKp Y F F2 := hK0.tr k6
  have z15 : sZ S4 8 = 0 := (s7.z 8 (by decide)).trans hz8
  have z16 : sN S4 8 = 16 := (s7.n 8 (by decide)).trans hn8
  have z17 : sZ S4 9 = 0 := (s7.z 9 (by decide)).trans hz9
  have z18 : sN S4 9 = 16 := (s7.n 9 (by decide)).trans hn9
  have z19 : sZ S4 10 = 0 := (s7.z 10 (by decide)).trans hz10
  have z20 : sN S4 10 = 16 := (s7.n 10 (by decide)).trans hn10
  have z21 : sZ S4 11 = 0 := (s7.z 11 (by decide)).trans hz11
  have z22 : sN S4 11 = 16 := (s7.n 11 (by decide)).trans hn11
  have z23 : sZ S4 12 = 0 := (s7.z 12 (by decide)).trans hz12
  have z24 : sN S4 12 = 16 := (s7.n 12 (by decide)).trans hn12
  have z25 : sZ S4 13 = 0 := (s7.z 13 (by decide)).trans hz13
  have z26 : sN S4 13 = 16 := (s7.n 13 (by decide)).trans hn13
  have z27 : sZ S4 7 = 0 := Nat.le_zero.mp (Nat.le_trans u12 (Nat.le_of_eq hz7))
  have z28 : sN S4 7 = 16 := u8.trans hn7
  clear hz7 hn7 hz8 hn8 hz9 hn9 hz10 hn10 hz11 hn11 hz12 hn12 hz13 hn13 hM0 hK0 s7 k6 hW p3 u8 u9 u10 u11 u12
  refine g_aload_n hC dX10_clear_8 rfl ?_
  refine g_get hC fl_X10_21 (hW5.o 2 (by decide)) rfl dX10_clear_9 ?_
  refine g_iconst (v := 0) hC dX10_clear_12 rfl ?_
  refine g_callVv (As := [.int 0]) hC rfl (hW5.r 8 (by decide)).1 (c_Ints_cut X.la d b F2 _ _ _ _ _ _ (hW5.r 8 (by decide)) 0) cl_X10_39 rfl rfl (Nat.le_of_ble_eq_true rfl) (gFit_of (Nat.le_of_ble_eq_true rfl) (Nat.le_of_ble_eq_true rfl) (by first | exact Nat.le_of_ble_eq_true rfl | omega | (simp only [gR]; omega)) (by first | exact Nat.le_of_ble_eq_true rfl | omega | (simp only [gR]; omega))) dX10_clear_13 (fun F30 p31 => ?_)
  obtain ⟨S32, hW33, k34, s35, u36, u37, u38, u39, u40⟩ := wt_cut hW5 (by decide) p31
  have hM41 : gSm S S32 [7, 8, 9, 10, 11, 12, 13] [] := hM13.tr s35 _ _ rfl rfl
  have hK42 : gKp Y F F30 := hK14.tr k34
  have z43 : sZ S32 9 = 0 := (s35.z 9 (by decide)).trans z17
  have z44 : sN S32 9 = 16 := (s35.n 9 (by decide)).trans z18
  have z45 : sZ S32 10 = 0 := (s35.z 10 (by decide)).trans z19
  have z46 : sN S32 10 = 16 := (s35.n 10 (by decide)).trans z20
  have z47 : sZ S32 11 = 0 := (s35.z 11 (by decide)).trans z21
  have z48 : sN S32 11 = 16 := (s35.n 11 (by decide)).trans z22
  have z49 : sZ S32 12 = 0 := (s35.z 12 (by decide)).trans z23
  have z50 : sN S32 12 = 16 := (s35.n 12 (by decide)).trans z24
  have z51 : sZ S32 13 = 0 := (s35.z 13 (by decide)).trans z25
  have z52 : sN S32 13 = 16 := (s35.n 13 (by decide)).trans z26
  have z53 : sZ S32 7 = 0 := (s35.z 7 (by decide)).trans z27
  have z54 : sN S32 7 = 16 := (s35.n 7 (by decide)).trans z28
  have z55 : sZ S32 8 = 0 := Nat.le_zero.mp (Nat.le_trans u40 (Nat.le_of_eq z15))
  have z56 : sN S32 8 = 16 := u36.trans z16
  clear z15 z16 z17 z18 z19 z20 z21 z22 z23 z24 z25 z26 z27 z28 hM13 hK14 s35 k34 hW5 p31 u36 u37 u38 u39 u40
  refine g_aload_n hC dX10_clear_16 rfl ?_
  refine g_get hC fl_X10_24 (hW33.o 2 (by decide)) rfl dX10_clear_17 ?_
  refine g_iconst (v := 0) hC dX10_clear_20 rfl ?_
  refine g_callVv (As := [.int 0]) hC rfl (hW33.r 9 (by decide)).1 (c_Ints_cut X.la d b F30 _ _ _ _ _ _ (hW33.r 9 (by decide)) 0) cl_X10_39 rfl rfl (Nat.le_of_ble_eq_true rfl) (gFit_of (Nat.le_of_ble_eq_true rfl) (Nat.le_of_ble_eq_true rfl) (by first | exact Nat.le_of_ble_eq_true rfl | omega | (simp only [gR]; omega)) (by first | exact Nat.le_of_ble_eq_true rfl | omega | (simp only [gR]; omega))) dX10_clear_21 (fun F58 p59 => ?_)
  obtain ⟨S60, hW61, k62, s63, u64, u65, u66, u67, u68⟩ := wt_cut hW33 (by decide) p59
  have hM69 : gSm S S60 [7, 8, 9, 10, 11, 12, 13] [] := hM41.tr s63 _ _ rfl rfl
  have hK70 : gKp Y F F58 := hK42.tr k62
  have z71 : sZ S60 10 = 0 := (s63.z 10 (by decide)).trans z45
  have z72 : sN S60 10 = 16 := (s63.n 10 (by decide)).trans z46
  have z73 : sZ S60 11 = 0 := (s63.z 11 (by decide)).trans z47
  have z74 : sN S60 11 = 16 := (s63.n 11 (by decide)).trans z48
  have z75 : sZ S60 12 = 0 := (s63.z 12 (by decide)).trans z49
  have z76 : sN S60 12 = 16 := (s63.n 12 (by decide)).trans z50
  have z77 : sZ S60 13 = 0 := (s63.z 13 (by decide)).trans z51
  have z78 : sN S60 13 = 16 := (s63.n 13 (by decide)).trans z52
  have z79 : sZ S60 7 = 0 := (s63.z 7 (by decide)).trans z53
  have z80 : sN S60 7 = 16 := (s63.n 7 (by decide)).trans z54
  have z81 : sZ S60 8 = 0 := (s63.z 8 (by decide)).trans z55
  have z82 : sN S60 8 = 16 := (s63.n 8 (by decide)).trans z56
  have z83 : sZ S60 9 = 0 := Nat.le_zero.mp (Nat.le_trans u68 (Nat.le_of_eq z43))
  have z84 : sN S60 9 = 16 := u64.trans z44
  clear z43 z44 z45 z46 z47 z48 z49 z50 z51 z52 z53 z54 z55 z56 hM41 hK42 s63 k62 hW33 p59 u64 u65 u66 u67 u68
  refine g_aload_n hC dX10_clear_24 rfl ?_
  refine g_get hC fl_X10_27 (hW61.o 2 (by decide)) rfl dX10_clear_25 ?_
  refine g_iconst (v := 0) hC dX10_clear_28 rfl ?_
  refine g_callVv (As := [.int 0]) hC rfl (hW61.r 10 (by decide)).1 (c_Ints_cut X.la d b F58 _ _ _ _ _ _ (hW61.r 10 (by decide)) 0) cl_X10_39 rfl rfl (Nat.le_of_ble_eq_true rfl) (gFit_of (Nat.le_of_ble_eq_true rfl) (Nat.le_of_ble_eq_true rfl) (by first | exact Nat.le_of_ble_eq_true rfl | omega | (simp only [gR]; omega)) (by first | exact Nat.le_of_ble_eq_true rfl | omega | (simp only [gR]; omega))) dX10_clear_29 (fun F86 p87 => ?_)
  obtain ⟨S88, hW89, k90, s91, u92, u93, u94, u95, u96⟩ := wt_cut hW61 (by decide) p87
  have hM97 : gSm S S88 [7, 8, 9, 10, 11, 12, 13] [] := hM69.tr s91 _ _ rfl rfl
  have hK98 : gKp Y F F86 := hK70.tr k90
  have z99 : sZ S88 11 = 0 := (s91.z 11 (by decide)).trans z73
  have z100 : sN S88 11 = 16 := (s91.n 11 (by decide)).trans z74
  have z101 : sZ S88 12 = 0 := (s91.z 12 (by decide)).trans z75
  have z102 : sN S88 12 = 16 := (s91.n 12 (by decide)).trans z76
  have z103 : sZ S88 13 = 0 := (s91.z 13 (by decide)).trans z77
  have z104 : sN S88 13 = 16 := (s91.n 13 (by decide)).trans z78
  have z105 : sZ S88 7 = 0 := (s91.z 7 (by decide)).trans z79
  have z106 : sN S88 7 = 16 := (s91.n 7 (by decide)).trans z80
  have z107 : sZ S88 8 = 0 := (s91.z 8 (by decide)).trans z81
  have z108 : sN S88 8 = 16 := (s91.n 8 (by decide)).trans z82
  have z109 : sZ S88 9 = 0 := (s91.z 9 (by decide)).trans z83
  have z110 : sN S88 9 = 16 := (s91.n 9 (by decide)).trans z84
  have z111 : sZ S88 10 = 0 := Nat.le_zero.mp (Nat.le_trans u96 (Nat.le_of_eq z71))
  have z112 : sN S88 10 = 16 := u92.trans z72
  clear z71 z72 z73 z74 z75 z76 z77 z78 z79 z80 z81 z82 z83 z84 hM69 hK70 s91 k90 hW61 p87 u92 u93 u94 u95 u96
  refine g_aload_n hC dX10_clear_32 rfl ?_
  refine g_get hC fl_X10_30 (hW89.o 2 (by decide)) rfl dX10_clear_33 ?_
  refine g_iconst (v := 0) hC dX10_clear_36 rfl ?_
  refine g_callVv (As := [.int 0]) hC rfl (hW89.r 11 (by decide)).1 (c_Ints_cut X.la d b F86 _ _ _ _ _ _ (hW89.r 11 (by decide)) 0) cl_X10_39 rfl rfl (Nat.le_of_ble_eq_true rfl) (gFit_of (Nat.le_of_ble_eq_true rfl) (Nat.le_of_ble_eq_true rfl) (by first | exact Nat.le_of_ble_eq_true rfl | omega | (simp only [gR]; omega)) (by first | exact Nat.le_of_ble_eq_true rfl | omega | (simp only [gR]; omega))) dX10_clear_37 (fun F114 p115 => ?_)
  obtain ⟨S116, hW117, k118, s119, u120, u121, u122, u123, u124⟩ := wt_cut hW89 (by decide) p115
  have hM125 : gSm S S116 [7, 8, 9, 10, 11, 12, 13] [] := hM97.tr s119 _ _ rfl rfl
  have hK126 : gKp Y F F114 := hK98.tr k118
  have z127 : sZ S116 12 = 0 := (s119.z 12 (by decide)).trans z101
  have z128 : sN S116 12 = 16 := (s119.n 12 (by decide)).trans z102
  have z129 : sZ S116 13 = 0 := (s119.z 13 (by decide)).trans z103
  have z130 : sN S116 13 = 16 := (s119.n 13 (by decide)).trans z104
  have z131 : sZ S116 7 = 0 := (s119.z 7 (by decide)).trans z105
  have z132 : sN S116 7 = 16 := (s119.n 7 (by decide)).trans z106
  have z133 : sZ S116 8 = 0 := (s119.z 8 (by decide)).trans z107
  have z134 : sN S116 8 = 16 := (s119.n 8 (by decide)).trans z108
  have z135 : sZ S116 9 = 0 := (s119.z 9 (by decide)).trans z109
  have z136 : sN S116 9 = 16 := (s119.n 9 (by decide)).trans z110
  have z137 : sZ S116 10 = 0 := (s119.z 10 (by decide)).trans z111
  have z138 : sN S116 10 = 16 := (s119.n 10 (by decide)).trans z112
  have z139 : sZ S116 11 = 0 := Nat.le_zero.mp (Nat.le_trans u124 (Nat.le_of_eq z99))
  have z140 : sN S116 11 = 16 := u120.trans z100
  clear z99 z100 z101 z102 z103 z104 z105 z106 z107 z108 z109 z110 z111 z112 hM97 hK98 s119 k118 hW89 p115 u120 u121 u122 u123 u124
  refine g_aload_n hC dX10_clear_40 rfl ?_
  refine g_get hC fl_X10_33 (hW117.o 2 (by decide)) rfl dX10_clear_41 ?_
  refine g_iconst (v := 0) hC dX10_clear_44 rfl ?_
  refine g_callVv (As := [.int 0]) hC rfl (hW117.r 12 (by decide)).1 (c_Ints_cut X.la d b F114 _ _ _ _ _ _ (hW117.r 12 (by decide)) 0) cl_X10_39 rfl rfl (Nat.le_of_ble_eq_true rfl) (gFit_of (Nat.le_of_ble_eq_true rfl) (Nat.le_of_ble_eq_true rfl) (by first | exact Nat.le_of_ble_eq_true rfl | omega | (simp only [gR]; omega)) (by first | exact Nat.le_of_ble_eq_true rfl | omega | (simp only [gR]; omega))) dX10_clear_45 (fun F142 p143 => ?_)
  obtain ⟨S144, hW145, k146, s147, u148, u149, u150, u151, u152⟩ := wt_cut hW117 (by decide) p143
  have hM153 : gSm S S144 [7, 8, 9, 10, 11, 12, 13] [] := hM125.tr s147 _ _ rfl rfl
  have hK154 : gKp Y F F142 := hK126.tr k146
  have z155 : sZ S144 13 = 0 := (s147.z 13 (by decide)).trans z129
  have z156 : sN S144 13 = 16 := (s147.n 13 (by decide)).trans z130
  have z157 : sZ S144 7 = 0 := (s147.z 7 (by decide)).trans z131
  have z158 : sN S144 7 = 16 := (s147.n 7 (by decide)).trans z132
  have z159 : sZ S144 8 = 0 := (s147.z 8 (by decide)).trans z133
  have z160 : sN S144 8 = 16 := (s147.n 8 (by decide)).trans z134
  have z161 : sZ S144 9 = 0 := (s147.z 9 (by decide)).trans z135
  have z162 : sN S144 9 = 16 := (s147.n 9 (by decide)).trans z136
  have z163 : sZ S144 10 = 0 := (s147.z 10 (by decide)).trans z137
  have z164 : sN S144 10 = 16 := (s147.n 10 (by decide)).trans z138
  have z165 : sZ S144 11 = 0 := (s147.z 11 (by decide)).trans z139
  have z166 : sN S144 11 = 16 := (s147.n 11 (by decide)).trans z140
  have z167 : sZ S144 12 = 0 := Nat.le_zero.mp (Nat.le_trans u152 (Nat.le_of_eq z127))
  have z168 : sN S144 12 = 16 := u148.trans z128
  clear z127 z128 z129 z130 z131 z132 z133 z134 z135 z136 z137 z138 z139 z140 hM125 hK126 s147 k146 hW117 p143 u148 u149 u150 u151 u152
  refine g_aload_n hC dX10_clear_48 rfl ?_
  refine g_get hC fl_X10_36 (hW145.o 2 (by decide)) rfl dX10_clear_49 ?_
  refine g_iconst (v := 0) hC dX10_clear_52 rfl ?_
  refine g_callVv (As := [.int 0]) hC rfl (hW145.r 13 (by decide)).1 (c_Ints_cut X.la d b F142 _ _ _ _ _ _ (hW145.r 13 (by decide)) 0) cl_X10_39 rfl rfl (Nat.le_of_ble_eq_true rfl) (gFit_of (Nat.le_of_ble_eq_true rfl) (Nat.le_of_ble_eq_true rfl) (by first | exact Nat.le_of_ble_eq_true rfl | omega | (simp only [gR]; omega)) (by first | exact Nat.le_of_ble_eq_true rfl | omega | (simp only [gR]; omega))) dX10_clear_53 (fun F170 p171 => ?_)
  obtain ⟨S172, hW173, k174, s175, u176, u177, u178, u179, u180⟩ := wt_cut hW145 (by decide) p171
  have hM181 : gSm S S172 [7, 8, 9, 10, 11, 12, 13] [] := hM153.tr s175 _ _ rfl rfl
  have hK182 : gKp Y F F170 := hK154.tr k174
  have z183 : sZ S172 7 = 0 := (s175.z 7 (by decide)).trans z157
  have z184 : sN S172 7 = 16 := (s175.n 7 (by decide)).trans z158
  have z185 : sZ S172 8 = 0 := (s175.z 8 (by decide)).trans z159
  have z186 : sN S172 8 = 16 := (s175.n 8 (by decide)).trans z160
  have z187 : sZ S172 9 = 0 := (s175.z 9 (by decide)).trans z161
  have z188 : sN S172 9 = 16 := (s175.n 9 (by decide)).trans z162
  have z189 : sZ S172 10 = 0 := (s175.z 10 (by decide)).trans z163
  have z190 : sN S172 10 = 16 := (s175.n 10 (by decide)).trans z164
  have z191 : sZ S172 11 = 0 := (s175.z 11 (by decide)).trans z165
  have z192 : sN S172 11 = 16 := (s175.n 11 (by decide)).trans z166
  have z193 : sZ S172 12 = 0 := (s175.z 12 (by decide)).trans z167
  have z194 : sN S172 12 = 16 := (s175.n 12 (by decide)).trans z168
  have z195 : sZ S172 13 = 0 := Nat.le_zero.mp (Nat.le_trans u180 (Nat.le_of_eq z155))
  have z196 : sN S172 13 = 16 := u176.trans z156
  clear z155 z156 z157 z158 z159 z160 z161 z162 z163 z164 z165 z166 z167 z168 hM153 hK154 s175 k174 hW145 p171 u176 u177 u178 u179 u180
  refine g_aload_n hC dX10_clear_56 rfl ?_
  refine g_iconst (v := 0) hC dX10_clear_57 rfl ?_
  refine g_iconst (v := 0) hC dX10_clear_58 rfl ?_
  refine g_iconst (v := 0) hC dX10_clear_59 rfl ?_
  refine g_callVi (As := [.int 0, .int 0, .int 0]) hC rfl (hW173.o 2 (by decide)) (c_T_node X.la d b Y F170 S172 hW173 0 0 0 0 (by omega) z183 z184 z185 z186 z187 z188 z189 z190 z191 z192 z193 z194 z195 z196) cl_X10_42 rfl rfl (Nat.le_of_ble_eq_true rfl) (gFit_of (Nat.le_of_ble_eq_true rfl) (Nat.le_of_ble_eq_true rfl) (by first | exact Nat.le_of_ble_eq_true rfl | omega | (simp only [gR]; omega)) (by first | exact Nat.le_of_ble_eq_true rfl | omega | (simp only [gR]; omega))) dX10_clear_60 (fun r199 F197 p198 => ?_)
  obtain ⟨S200, hW201, k202, s203, y204, y205, y206, y207, y208, y209, y210, y211, y212, y213, y214, y215, y216, y217⟩ := p198
  have hM218 : gSm S S200 [7, 8, 9, 10, 11, 12, 13] [] := hM181.tr s203 _ _ rfl rfl
  have hK219 : gKp Y F F197 := hK182.tr k202
  clear z183 z184 z185 z186 z187 z188 z189 z190 z191 z192 z193 z194 z195 z196 hM181 hK182 s203 k202 hW173
  refine g_pop hC dX10_clear_63 rfl ?_
  exact g_vret hC ⟨S200, hW201, hK219, hM218, y204, y205, y206, y207, y208, y209, y210, y211, y212, y213, y214, y215, y216, y217⟩ (by first | exact Nat.le_of_ble_eq_true rfl | omega | (simp only [gR]; omega)) (by first | exact Nat.le_of_ble_eq_true rfl | omega | (simp only [gR]; omega)) dX10_clear_64
theorem dX8_pass_0 : decode cX8_pass 0 = .ok (.iconst 0, 1) := by decide +kernel
theorem dX8_pass_1 : decode cX8_pass 1 = .ok (.istore_n 1, 1) := by decide +kernel
theorem dX8_pass_2 : decode cX8_pass 2 = .ok (.iload_n 1, 1) := by decide +kernel
theorem dX8_pass_3 : decode cX8_pass 3 = .ok (.aload_n 0, 1) := by decide +kernel
theorem dX8_pass_4 : decode cX8_pass 4 = .ok (.getfield 47, 3) := by decide +kernel
theorem dX8_pass_7 : decode cX8_pass 7 = .ok (.invokevirtual 62, 3) := by decide +kernel
theorem dX8_pass_10 : decode cX8_pass 10 = .ok (.if_icmp .gt 122, 3) := by decide +kernel
theorem dX8_pass_13 : decode cX8_pass 13 = .ok (.aload_n 0, 1) := by decide +kernel
theorem dX8_pass_14 : decode cX8_pass 14 = .ok (.getfield 39, 3) := by decide +kernel
theorem dX8_pass_17 : decode cX8_pass 17 = .ok (.aload_n 0, 1) := by decide +kernel
theorem dX8_pass_18 : decode cX8_pass 18 = .ok (.getfield 47, 3) := by decide +kernel
theorem dX8_pass_21 : decode cX8_pass 21 = .ok (.invokevirtual 62, 3) := by decide +kernel
theorem dX8_pass_24 : decode cX8_pass 24 = .ok (.if_icmp .ge 108, 3) := by decide +kernel
theorem dX8_pass_27 : decode cX8_pass 27 = .ok (.aload_n 0, 1) := by decide +kernel
theorem dX8_pass_28 : decode cX8_pass 28 = .ok (.getfield 47, 3) := by decide +kernel
theorem dX8_pass_31 : decode cX8_pass 31 = .ok (.aload_n 0, 1) := by decide +kernel
theorem dX8_pass_32 : decode cX8_pass 32 = .ok (.getfield 39, 3) := by decide +kernel
theorem dX8_pass_35 : decode cX8_pass 35 = .ok (.invokevirtual 88, 3) := by decide +kernel
theorem dX8_pass_38 : decode cX8_pass 38 = .ok (.istore_n 2, 1) := by decide +kernel
theorem dX8_pass_39 : decode cX8_pass 39 = .ok (.iload_n 2, 1) := by decide +kernel
theorem dX8_pass_40 : decode cX8_pass 40 = .ok (.bipush 47, 2) := by decide +kernel
theorem dX8_pass_42 : decode cX8_pass 42 = .ok (.if_icmp .ne 28, 3) := by decide +kernel
theorem dX8_pass_45 : decode cX8_pass 45 = .ok (.aload_n 0, 1) := by decide +kernel
theorem dX8_pass_46 : decode cX8_pass 46 = .ok (.getfield 47, 3) := by decide +kernel
theorem dX8_pass_49 : decode cX8_pass 49 = .ok (.aload_n 0, 1) := by decide +kernel
theorem dX8_pass_50 : decode cX8_pass 50 = .ok (.getfield 39, 3) := by decide +kernel
theorem dX8_pass_53 : decode cX8_pass 53 = .ok (.iconst 1, 1) := by decide +kernel
theorem dX8_pass_54 : decode cX8_pass 54 = .ok (.iadd, 1) := by decide +kernel
theorem dX8_pass_55 : decode cX8_pass 55 = .ok (.invokevirtual 88, 3) := by decide +kernel
theorem dX8_pass_58 : decode cX8_pass 58 = .ok (.bipush 47, 2) := by decide +kernel
theorem dX8_pass_60 : decode cX8_pass 60 = .ok (.if_icmp .ne 10, 3) := by decide +kernel
theorem dX8_pass_63 : decode cX8_pass 63 = .ok (.aload_n 0, 1) := by decide +kernel
theorem dX8_pass_64 : decode cX8_pass 64 = .ok (.invokevirtual 109, 3) := by decide +kernel
theorem dX8_pass_67 : decode cX8_pass 67 = .ok (.goto 59, 3) := by decide +kernel
theorem dX8_pass_70 : decode cX8_pass 70 = .ok (.iload_n 2, 1) := by decide +kernel
theorem dX8_pass_71 : decode cX8_pass 71 = .ok (.bipush 10, 2) := by decide +kernel
theorem dX8_pass_73 : decode cX8_pass 73 = .ok (.if_icmp .ne 21, 3) := by decide +kernel
theorem dX8_pass_76 : decode cX8_pass 76 = .ok (.aload_n 0, 1) := by decide +kernel
theorem dX8_pass_77 : decode cX8_pass 77 = .ok (.iconst 1, 1) := by decide +kernel
theorem dX8_pass_78 : decode cX8_pass 78 = .ok (.putfield 43, 3) := by decide +kernel
theorem dX8_pass_81 : decode cX8_pass 81 = .ok (.aload_n 0, 1) := by decide +kernel
theorem dX8_pass_82 : decode cX8_pass 82 = .ok (.dup, 1) := by decide +kernel
theorem dX8_pass_83 : decode cX8_pass 83 = .ok (.getfield 39, 3) := by decide +kernel
theorem dX8_pass_86 : decode cX8_pass 86 = .ok (.iconst 1, 1) := by decide +kernel
theorem dX8_pass_87 : decode cX8_pass 87 = .ok (.iadd, 1) := by decide +kernel
theorem dX8_pass_88 : decode cX8_pass 88 = .ok (.putfield 39, 3) := by decide +kernel
theorem dX8_pass_91 : decode cX8_pass 91 = .ok (.goto 35, 3) := by decide +kernel
theorem dX8_pass_94 : decode cX8_pass 94 = .ok (.iload_n 2, 1) := by decide +kernel
theorem dX8_pass_95 : decode cX8_pass 95 = .ok (.bipush 9, 2) := by decide +kernel
theorem dX8_pass_97 : decode cX8_pass 97 = .ok (.if_icmp .eq 15, 3) := by decide +kernel
theorem dX8_pass_100 : decode cX8_pass 100 = .ok (.iload_n 2, 1) := by decide +kernel
theorem dX8_pass_101 : decode cX8_pass 101 = .ok (.bipush 13, 2) := by decide +kernel
theorem dX8_pass_103 : decode cX8_pass 103 = .ok (.if_icmp .eq 9, 3) := by decide +kernel
theorem dX8_pass_106 : decode cX8_pass 106 = .ok (.iload_n 2, 1) := by decide +kernel
theorem dX8_pass_107 : decode cX8_pass 107 = .ok (.bipush 32, 2) := by decide +kernel
theorem dX8_pass_109 : decode cX8_pass 109 = .ok (.if_icmp .ne 16, 3) := by decide +kernel
theorem dX8_pass_112 : decode cX8_pass 112 = .ok (.aload_n 0, 1) := by decide +kernel
theorem dX8_pass_113 : decode cX8_pass 113 = .ok (.dup, 1) := by decide +kernel
theorem dX8_pass_114 : decode cX8_pass 114 = .ok (.getfield 39, 3) := by decide +kernel
theorem dX8_pass_117 : decode cX8_pass 117 = .ok (.iconst 1, 1) := by decide +kernel
theorem dX8_pass_118 : decode cX8_pass 118 = .ok (.iadd, 1) := by decide +kernel
theorem dX8_pass_119 : decode cX8_pass 119 = .ok (.putfield 39, 3) := by decide +kernel
theorem dX8_pass_122 : decode cX8_pass 122 = .ok (.goto 4, 3) := by decide +kernel
theorem dX8_pass_125 : decode cX8_pass 125 = .ok (.return_, 1) := by decide +kernel
theorem dX8_pass_126 : decode cX8_pass 126 = .ok (.iinc 1 1, 3) := by decide +kernel
theorem dX8_pass_129 : decode cX8_pass 129 = .ok (.goto (-127), 3) := by decide +kernel
theorem dX8_pass_132 : decode cX8_pass 132 = .ok (.return_, 1) := by decide +kernel
set_option maxHeartbeats 4000000 in
set_option maxRecDepth 100000 in
theorem c_S_pass0 (l : Launch) (d : gD) (b : Nat) (Y : gYt) (F : gM) (S : gSt) (hW : gWT d Y F S) (hz0 : sZ S 0 = 0) (hv8 : sV S 8 = 0) : gMv l d b yX8_pass cX8_pass 3 1 0 0 F [.ref (gO' Y 3)] (fun F' => F' = F) := by
  refine gM_of2 rfl (nL := 3) (Nat.le_of_ble_eq_true rfl) ?_
  intro X hX hC; subst hX
  show gG X d b _ F 0 0 0 [some (.ref (gO' Y 3)), none, none] []
  have hM0 : gSm S S [] [] := gSm.rf
  have hK0 : gKp Y F F := gKp.rf
  refine g_iconst (v := 0) hC dX8_pass_0 rfl ?_
  refine g_istore_n (lv' := [some (.ref (gO' Y 3)), some (.int 0), none]) hC dX8_pass_1 (Nat.le_of_ble_eq_true rfl) rfl rfl ?_
  refine g_iload_n hC dX8_pass_2 rfl ?_
  refine g_aload_n hC dX8_pass_3 rfl ?_
  refine g_get hC fl_X8_47 (hW.o 3 (by decide)) rfl dX8_pass_4 ?_
  refine g_callVi (As := []) hC rfl (hW.r 0 (by decide)).1 (c_Ints_size X.la d b F _ _ _ _ _ _ (hW.r 0 (by decide))) cl_X8_62 rfl rfl (Nat.le_of_ble_eq_true rfl) (gFit_of (Nat.le_of_ble_eq_true rfl) (Nat.le_of_ble_eq_true rfl) (by first | exact Nat.le_of_ble_eq_true rfl | omega | (simp only [gR]; omega)) (by first | exact Nat.le_of_ble_eq_true rfl | omega | (simp only [gR]; omega))) dX8_pass_7 (fun r1 F2 p3 => ?_)
  obtain ⟨rfl, eF2⟩ := p3; have eF2 := eF2.symm; subst eF2
  refine g_icmp_gt (tgt := 132) hC dX8_pass_10 (by decide) (fun c4 => ?_) (fun c4 => ?_)
  · rw [hz0] at c4; exact absurd c4 (by decide)
  · refine g_aload_n hC dX8_pass_13 rfl ?_
    refine g_get hC fl_X8_39 (hW.o 3 (by decide)) rfl dX8_pass_14 ?_
    refine g_aload_n hC dX8_pass_17 rfl ?_
    refine g_get hC fl_X8_47 (hW.o 3 (by decide)) rfl dX8_pass_18 ?_
    refine g_callVi (As := []) hC rfl (hW.r 0 (by decide)).1 (c_Ints_size X.la d b F _ _ _ _ _ _ (hW.r 0 (by decide))) cl_X8_62 rfl rfl (Nat.le_of_ble_eq_true rfl) (gFit_of (Nat.le_of_ble_eq_true rfl) (Nat.le_of_ble_eq_true rfl) (by first | exact Nat.le_of_ble_eq_true rfl | omega | (simp only [gR]; omega)) (by first | exact Nat.le_of_ble_eq_true rfl | omega | (simp only [gR]; omega))) dX8_pass_21 (fun r5 F6 p7 => ?_)
    obtain ⟨rfl, eF6⟩ := p7; have eF6 := eF6.symm; subst eF6
    refine g_icmp_ge (tgt := 132) hC dX8_pass_24 (by decide) (fun c8 => ?_) (fun c8 => ?_)
    · exact g_vret hC rfl (by first | exact Nat.le_of_ble_eq_true rfl | omega | (simp only [gR]; omega)) (by first | exact Nat.le_of_ble_eq_true rfl | omega | (simp only [gR]; omega)) dX8_pass_132
    · rw [hz0, hv8] at c8; exact absurd (by decide) c8
theorem dX8_put_0 : decode cX8_put 0 = .ok (.aload_n 0, 1) := by decide +kernel
theorem dX8_put_1 : decode cX8_put 1 = .ok (.getfield 43, 3) := by decide +kernel
theorem dX8_put_4 : decode cX8_put 4 = .ok (.ifCond .eq 48, 3) := by decide +kernel
theorem dX8_put_7 : decode cX8_put 7 = .ok (.aload_n 0, 1) := by decide +kernel
theorem dX8_put_8 : decode cX8_put 8 = .ok (.getfield 15, 3) := by decide +kernel
theorem dX8_put_11 : decode cX8_put 11 = .ok (.invokevirtual 106, 3) := by decide +kernel
theorem dX8_put_14 : decode cX8_put 14 = .ok (.invokestatic 112, 3) := by decide +kernel
theorem dX8_put_17 : decode cX8_put 17 = .ok (.ifCond .eq 35, 3) := by decide +kernel
theorem dX8_put_20 : decode cX8_put 20 = .ok (.iload_n 1, 1) := by decide +kernel
theorem dX8_put_21 : decode cX8_put 21 = .ok (.invokestatic 116, 3) := by decide +kernel
theorem dX8_put_24 : decode cX8_put 24 = .ok (.ifCond .eq 28, 3) := by decide +kernel
theorem dX8_put_27 : decode cX8_put 27 = .ok (.aload_n 0, 1) := by decide +kernel
theorem dX8_put_28 : decode cX8_put 28 = .ok (.getfield 15, 3) := by decide +kernel
theorem dX8_put_31 : decode cX8_put 31 = .ok (.bipush 10, 2) := by decide +kernel
theorem dX8_put_33 : decode cX8_put 33 = .ok (.invokevirtual 85, 3) := by decide +kernel
theorem dX8_put_36 : decode cX8_put 36 = .ok (.aload_n 0, 1) := by decide +kernel
theorem dX8_put_37 : decode cX8_put 37 = .ok (.getfield 21, 3) := by decide +kernel
theorem dX8_put_40 : decode cX8_put 40 = .ok (.iconst 0, 1) := by decide +kernel
theorem dX8_put_41 : decode cX8_put 41 = .ok (.invokevirtual 85, 3) := by decide +kernel
theorem dX8_put_44 : decode cX8_put 44 = .ok (.aload_n 0, 1) := by decide +kernel
theorem dX8_put_45 : decode cX8_put 45 = .ok (.getfield 24, 3) := by decide +kernel
theorem dX8_put_48 : decode cX8_put 48 = .ok (.iload_n 3, 1) := by decide +kernel
theorem dX8_put_49 : decode cX8_put 49 = .ok (.invokevirtual 85, 3) := by decide +kernel
theorem dX8_put_52 : decode cX8_put 52 = .ok (.aload_n 0, 1) := by decide +kernel
theorem dX8_put_53 : decode cX8_put 53 = .ok (.iconst 0, 1) := by decide +kernel
theorem dX8_put_54 : decode cX8_put 54 = .ok (.putfield 43, 3) := by decide +kernel
theorem dX8_put_57 : decode cX8_put 57 = .ok (.aload_n 0, 1) := by decide +kernel
theorem dX8_put_58 : decode cX8_put 58 = .ok (.getfield 15, 3) := by decide +kernel
theorem dX8_put_61 : decode cX8_put 61 = .ok (.iload_n 1, 1) := by decide +kernel
theorem dX8_put_62 : decode cX8_put 62 = .ok (.invokevirtual 85, 3) := by decide +kernel
theorem dX8_put_65 : decode cX8_put 65 = .ok (.aload_n 0, 1) := by decide +kernel
theorem dX8_put_66 : decode cX8_put 66 = .ok (.getfield 21, 3) := by decide +kernel
theorem dX8_put_69 : decode cX8_put 69 = .ok (.iload_n 2, 1) := by decide +kernel
theorem dX8_put_70 : decode cX8_put 70 = .ok (.invokevirtual 85, 3) := by decide +kernel
theorem dX8_put_73 : decode cX8_put 73 = .ok (.aload_n 0, 1) := by decide +kernel
theorem dX8_put_74 : decode cX8_put 74 = .ok (.getfield 24, 3) := by decide +kernel
theorem dX8_put_77 : decode cX8_put 77 = .ok (.iload_n 3, 1) := by decide +kernel
theorem dX8_put_78 : decode cX8_put 78 = .ok (.invokevirtual 85, 3) := by decide +kernel
theorem dX8_put_81 : decode cX8_put 81 = .ok (.return_, 1) := by decide +kernel
set_option maxHeartbeats 4000000 in
set_option maxRecDepth 100000 in
theorem c_S_put0 (l : Launch) (d : gD) (b : Nat) (Y : gYt) (F : gM) (S : gSt) (hW : gWT d Y F S) (x y u : Int32) (hv9 : sV S 9 = 0) (hz14 : sZ S 14 = 0) (hn14 : sN S 14 = 16) (hz15 : sZ S 15 = 0) (hn15 : sN S 15 = 16) (hz16 : sZ S 16 = 0) (hn16 : sN S 16 = 16) : gMv l d b yX8_put cX8_put 4 3 0 0 F [.ref (gO' Y 3), .int x, .int y, .int u] (fun F' => ∃ S', gWT d Y F' S' ∧ gKp Y F F' ∧ gSm S S' [14, 15, 16] [9] ∧ sZ S' 14 = 0 + 1 ∧ sZ S' 15 = 0 + 1 ∧ sZ S' 16 = 0 + 1 ∧ sF S' 14 0 = x ∧ sF S' 16 0 = u) := by
  refine gM_of2 rfl (nL := 4) (Nat.le_of_ble_eq_true rfl) ?_
  intro X hX hC; subst hX
  show gG X d b _ F 0 0 0 [some (.ref (gO' Y 3)), some (.int x), some (.int y), some (.int u)] []
  have hM0 : gSm S S [14, 15, 16] [9] := gSm.rf
  have hK0 : gKp Y F F := gKp.rf
  refine g_aload_n hC dX8_put_0 rfl ?_
  refine g_get hC fl_X8_43 (hW.o 3 (by decide)) rfl dX8_put_1 ?_
  refine g_if_eq (tgt := 52) hC dX8_put_4 (by decide) (fun c1 => ?_) (fun c1 => ?_)
  · refine g_aload_n hC dX8_put_52 rfl ?_
    refine g_iconst (v := 0) hC dX8_put_53 rfl ?_
    refine g_put hC fl_X8_43 (hW.o 3 (by decide)) rfl rfl (Nat.le_of_ble_eq_true rfl) dX8_put_54 ?_
    refine g_vF (fun F2 hF2 => ?_)
    obtain ⟨hW4, k5⟩ := gWT.put (k := 9) (x := 0) hW (i := 3) (by decide) hF2 rfl gsame_9 (fun _ => by decide)
    obtain ⟨S3, hS3⟩ : ∃ z, z = uV S 9 0 := ⟨_, rfl⟩
    rw [← hS3] at hW4
    have s6 : gSm S S3 [] [9] := by rw [hS3]; exact gSm_uV
    have hM7 : gSm S S3 [14, 15, 16] [9] := hM0.tr s6 _ _ rfl rfl
    have hK8 : gKp Y F F2 := hK0.tr k5
    have z9 : sZ S3 14 = 0 := (s6.z 14 (by decide)).trans hz14
    have z10 : sN S3 14 = 16 := (s6.n 14 (by decide)).trans hn14
    have z11 : sZ S3 15 = 0 := (s6.z 15 (by decide)).trans hz15
    have z12 : sN S3 15 = 16 := (s6.n 15 (by decide)).trans hn15
    have z13 : sZ S3 16 = 0 := (s6.z 16 (by decide)).trans hz16
    have z14 : sN S3 16 = 16 := (s6.n 16 (by decide)).trans hn16
    have z15 : sV S3 9 = 0 := by rw [hS3]; exact uV_self
    refine g_aload_n hC dX8_put_57 rfl ?_
    refine g_get hC fl_X8_15 (hW4.o 3 (by decide)) rfl dX8_put_58 ?_
    refine g_iload_n hC dX8_put_61 rfl ?_
    have z19 : gAc (sN S3 14) (sZ S3 14) = 0 := gAc0 (by rw [z9, z10]; exact (Nat.le_of_ble_eq_true rfl))
    have z20 : gAs (gmo 14) (sN S3 14) (sZ S3 14) = 0 := gAs0 (by rw [z9, z10]; exact (Nat.le_of_ble_eq_true rfl))
    refine g_callVv (As := [.int x]) hC rfl (hW4.r 14 (by decide)).1 (c_Ints_add X.la d b F2 _ _ _ _ _ _ (hW4.r 14 (by decide)) x) cl_X8_85 rfl rfl (Nat.le_of_ble_eq_true rfl) (gFit_add (Nat.le_of_ble_eq_true rfl) (Nat.le_of_ble_eq_true rfl) z19 z20 (Nat.le_of_ble_eq_true rfl) (Nat.le_of_ble_eq_true rfl)) dX8_put_62 (fun F17 p18 => ?_)
    refine g_kn (k2 := 0) (n2 := 0) (by rw [z19]) (by rw [z20]) ?_
    obtain ⟨S21, hW22, k23, s24, a25, -⟩ := wt_add hW4 (by decide) p18
    have a25 := a25 (by rw [z9]; exact Nat.lt_of_lt_of_le (Nat.le_of_ble_eq_true rfl) (w_mo 14))
    have hM26 : gSm S S21 [14, 15, 16] [9] := hM7.tr s24 _ _ rfl rfl
    have hK27 : gKp Y F F17 := hK8.tr k23
    have z28 : sZ S21 15 = 0 := (s24.z 15 (by decide)).trans z11
    have z29 : sN S21 15 = 16 := (s24.n 15 (by decide)).trans z12
    have z30 : sZ S21 16 = 0 := (s24.z 16 (by decide)).trans z13
    have z31 : sN S21 16 = 16 := (s24.n 16 (by decide)).trans z14
    have z32 : sV S21 9 = 0 := (s24.v 9 (by decide)).trans z15
    have z33 : sZ S21 14 = 1 := by rw [a25.1, z9]
    have z34 : sN S21 14 = 16 := by rw [a25.2.1, gAn0 (by rw [z9, z10]; exact (Nat.le_of_ble_eq_true rfl)), z10]
    refine g_aload_n hC dX8_put_65 rfl ?_
    refine g_get hC fl_X8_21 (hW22.o 3 (by decide)) rfl dX8_put_66 ?_
    refine g_iload_n hC dX8_put_69 rfl ?_
    have z38 : gAc (sN S21 15) (sZ S21 15) = 0 := gAc0 (by rw [z28, z29]; exact (Nat.le_of_ble_eq_true rfl))
    have z39 : gAs (gmo 15) (sN S21 15) (sZ S21 15) = 0 := gAs0 (by rw [z28, z29]; exact (Nat.le_of_ble_eq_true rfl))
    refine g_callVv (As := [.int y]) hC rfl (hW22.r 15 (by decide)).1 (c_Ints_add X.la d b F17 _ _ _ _ _ _ (hW22.r 15 (by decide)) y) cl_X8_85 rfl rfl (Nat.le_of_ble_eq_true rfl) (gFit_add (Nat.le_of_ble_eq_true rfl) (Nat.le_of_ble_eq_true rfl) z38 z39 (Nat.le_of_ble_eq_true rfl) (Nat.le_of_ble_eq_true rfl)) dX8_put_70 (fun F36 p37 => ?_)
    refine g_kn (k2 := 0) (n2 := 0) (by rw [z38]) (by rw [z39]) ?_
    obtain ⟨S40, hW41, k42, s43, a44, -⟩ := wt_add hW22 (by decide) p37
    have a44 := a44 (by rw [z28]; exact Nat.lt_of_lt_of_le (Nat.le_of_ble_eq_true rfl) (w_mo 15))
    have hM45 : gSm S S40 [14, 15, 16] [9] := hM26.tr s43 _ _ rfl rfl
    have hK46 : gKp Y F F36 := hK27.tr k42
    have z47 : sZ S40 16 = 0 := (s43.z 16 (by decide)).trans z30
    have z48 : sN S40 16 = 16 := (s43.n 16 (by decide)).trans z31
    have z49 : sZ S40 14 = 1 := (s43.z 14 (by decide)).trans z33
    have z50 : sN S40 14 = 16 := (s43.n 14 (by decide)).trans z34
    have z51 : sV S40 9 = 0 := (s43.v 9 (by decide)).trans z32
    have z52 : sZ S40 15 = 1 := by rw [a44.1, z28]
    have z53 : sN S40 15 = 16 := by rw [a44.2.1, gAn0 (by rw [z28, z29]; exact (Nat.le_of_ble_eq_true rfl)), z29]
    refine g_aload_n hC dX8_put_73 rfl ?_
    refine g_get hC fl_X8_24 (hW41.o 3 (by decide)) rfl dX8_put_74 ?_
    refine g_iload_n hC dX8_put_77 rfl ?_
    have z57 : gAc (sN S40 16) (sZ S40 16) = 0 := gAc0 (by rw [z47, z48]; exact (Nat.le_of_ble_eq_true rfl))
    have z58 : gAs (gmo 16) (sN S40 16) (sZ S40 16) = 0 := gAs0 (by rw [z47, z48]; exact (Nat.le_of_ble_eq_true rfl))
    refine g_callVv (As := [.int u]) hC rfl (hW41.r 16 (by decide)).1 (c_Ints_add X.la d b F36 _ _ _ _ _ _ (hW41.r 16 (by decide)) u) cl_X8_85 rfl rfl (Nat.le_of_ble_eq_true rfl) (gFit_add (Nat.le_of_ble_eq_true rfl) (Nat.le_of_ble_eq_true rfl) z57 z58 (Nat.le_of_ble_eq_true rfl) (Nat.le_of_ble_eq_true rfl)) dX8_put_78 (fun F55 p56 => ?_)
    refine g_kn (k2 := 0) (n2 := 0) (by rw [z57]) (by rw [z58]) ?_
    obtain ⟨S59, hW60, k61, s62, a63, -⟩ := wt_add hW41 (by decide) p56
    have a63 := a63 (by rw [z47]; exact Nat.lt_of_lt_of_le (Nat.le_of_ble_eq_true rfl) (w_mo 16))
    have hM64 : gSm S S59 [14, 15, 16] [9] := hM45.tr s62 _ _ rfl rfl
    have hK65 : gKp Y F F55 := hK46.tr k61
    have z66 : sZ S59 14 = 1 := (s62.z 14 (by decide)).trans z49
    have z67 : sN S59 14 = 16 := (s62.n 14 (by decide)).trans z50
    have z68 : sZ S59 15 = 1 := (s62.z 15 (by decide)).trans z52
    have z69 : sN S59 15 = 16 := (s62.n 15 (by decide)).trans z53
    have z70 : sV S59 9 = 0 := (s62.v 9 (by decide)).trans z51
    have z71 : sZ S59 16 = 1 := by rw [a63.1, z47]
    have z72 : sN S59 16 = 16 := by rw [a63.2.1, gAn0 (by rw [z47, z48]; exact (Nat.le_of_ble_eq_true rfl)), z48]
    exact g_vret hC ⟨S59, hW60, hK65, hM64, z66, z68, z71, by rw [s62.f 14 (by decide), s43.f 14 (by decide)]; have q := a25.2.2.2; rw [z9] at q; exact q, by have q := a63.2.2.2; rw [z47] at q; exact q⟩ (by first | exact Nat.le_of_ble_eq_true rfl | omega | (simp only [gR]; omega)) (by first | exact Nat.le_of_ble_eq_true rfl | omega | (simp only [gR]; omega)) dX8_put_81
  · exact absurd hv9 c1
theorem dX8_scan_0 : decode cX8_scan 0 = .ok (.aload_n 0, 1) := by decide +kernel
theorem dX8_scan_1 : decode cX8_scan 1 = .ok (.getfield 15, 3) := by decide +kernel
theorem dX8_scan_4 : decode cX8_scan 4 = .ok (.iconst 0, 1) := by decide +kernel
theorem dX8_scan_5 : decode cX8_scan 5 = .ok (.invokevirtual 82, 3) := by decide +kernel
theorem dX8_scan_8 : decode cX8_scan 8 = .ok (.aload_n 0, 1) := by decide +kernel
theorem dX8_scan_9 : decode cX8_scan 9 = .ok (.getfield 21, 3) := by decide +kernel
theorem dX8_scan_12 : decode cX8_scan 12 = .ok (.iconst 0, 1) := by decide +kernel
theorem dX8_scan_13 : decode cX8_scan 13 = .ok (.invokevirtual 82, 3) := by decide +kernel
theorem dX8_scan_16 : decode cX8_scan 16 = .ok (.aload_n 0, 1) := by decide +kernel
theorem dX8_scan_17 : decode cX8_scan 17 = .ok (.getfield 24, 3) := by decide +kernel
theorem dX8_scan_20 : decode cX8_scan 20 = .ok (.iconst 0, 1) := by decide +kernel
theorem dX8_scan_21 : decode cX8_scan 21 = .ok (.invokevirtual 82, 3) := by decide +kernel
theorem dX8_scan_24 : decode cX8_scan 24 = .ok (.aload_n 0, 1) := by decide +kernel
theorem dX8_scan_25 : decode cX8_scan 25 = .ok (.getfield 27, 3) := by decide +kernel
theorem dX8_scan_28 : decode cX8_scan 28 = .ok (.iconst 0, 1) := by decide +kernel
theorem dX8_scan_29 : decode cX8_scan 29 = .ok (.invokevirtual 82, 3) := by decide +kernel
theorem dX8_scan_32 : decode cX8_scan 32 = .ok (.aload_n 0, 1) := by decide +kernel
theorem dX8_scan_33 : decode cX8_scan 33 = .ok (.getfield 30, 3) := by decide +kernel
theorem dX8_scan_36 : decode cX8_scan 36 = .ok (.aload_n 0, 1) := by decide +kernel
theorem dX8_scan_37 : decode cX8_scan 37 = .ok (.getfield 66, 3) := by decide +kernel
theorem dX8_scan_40 : decode cX8_scan 40 = .ok (.invokevirtual 82, 3) := by decide +kernel
theorem dX8_scan_43 : decode cX8_scan 43 = .ok (.aload_n 0, 1) := by decide +kernel
theorem dX8_scan_44 : decode cX8_scan 44 = .ok (.getfield 33, 3) := by decide +kernel
theorem dX8_scan_47 : decode cX8_scan 47 = .ok (.bipush 61, 2) := by decide +kernel
theorem dX8_scan_49 : decode cX8_scan 49 = .ok (.invokevirtual 82, 3) := by decide +kernel
theorem dX8_scan_52 : decode cX8_scan 52 = .ok (.aload_n 0, 1) := by decide +kernel
theorem dX8_scan_53 : decode cX8_scan 53 = .ok (.getfield 36, 3) := by decide +kernel
theorem dX8_scan_56 : decode cX8_scan 56 = .ok (.bipush 61, 2) := by decide +kernel
theorem dX8_scan_58 : decode cX8_scan 58 = .ok (.invokevirtual 82, 3) := by decide +kernel
theorem dX8_scan_61 : decode cX8_scan 61 = .ok (.aload_n 0, 1) := by decide +kernel
theorem dX8_scan_62 : decode cX8_scan 62 = .ok (.iconst 0, 1) := by decide +kernel
theorem dX8_scan_63 : decode cX8_scan 63 = .ok (.putfield 39, 3) := by decide +kernel
theorem dX8_scan_66 : decode cX8_scan 66 = .ok (.aload_n 0, 1) := by decide +kernel
theorem dX8_scan_67 : decode cX8_scan 67 = .ok (.iconst 0, 1) := by decide +kernel
theorem dX8_scan_68 : decode cX8_scan 68 = .ok (.putfield 43, 3) := by decide +kernel
theorem dX8_scan_71 : decode cX8_scan 71 = .ok (.iconst 0, 1) := by decide +kernel
theorem dX8_scan_72 : decode cX8_scan 72 = .ok (.istore_n 1, 1) := by decide +kernel
theorem dX8_scan_73 : decode cX8_scan 73 = .ok (.iload_n 1, 1) := by decide +kernel
theorem dX8_scan_74 : decode cX8_scan 74 = .ok (.ldc 11, 2) := by decide +kernel
theorem dX8_scan_76 : decode cX8_scan 76 = .ok (.if_icmp .ge 57, 3) := by decide +kernel
theorem dX8_scan_79 : decode cX8_scan 79 = .ok (.aload_n 0, 1) := by decide +kernel
theorem dX8_scan_80 : decode cX8_scan 80 = .ok (.invokevirtual 96, 3) := by decide +kernel
theorem dX8_scan_83 : decode cX8_scan 83 = .ok (.aload_n 0, 1) := by decide +kernel
theorem dX8_scan_84 : decode cX8_scan 84 = .ok (.getfield 39, 3) := by decide +kernel
theorem dX8_scan_87 : decode cX8_scan 87 = .ok (.aload_n 0, 1) := by decide +kernel
theorem dX8_scan_88 : decode cX8_scan 88 = .ok (.getfield 47, 3) := by decide +kernel
theorem dX8_scan_91 : decode cX8_scan 91 = .ok (.invokevirtual 62, 3) := by decide +kernel
theorem dX8_scan_94 : decode cX8_scan 94 = .ok (.if_icmp .lt 17, 3) := by decide +kernel
theorem dX8_scan_97 : decode cX8_scan 97 = .ok (.aload_n 0, 1) := by decide +kernel
theorem dX8_scan_98 : decode cX8_scan 98 = .ok (.iconst 0, 1) := by decide +kernel
theorem dX8_scan_99 : decode cX8_scan 99 = .ok (.iconst 0, 1) := by decide +kernel
theorem dX8_scan_100 : decode cX8_scan 100 = .ok (.aload_n 0, 1) := by decide +kernel
theorem dX8_scan_101 : decode cX8_scan 101 = .ok (.getfield 47, 3) := by decide +kernel
theorem dX8_scan_104 : decode cX8_scan 104 = .ok (.invokevirtual 62, 3) := by decide +kernel
theorem dX8_scan_107 : decode cX8_scan 107 = .ok (.invokevirtual 99, 3) := by decide +kernel
theorem dX8_scan_110 : decode cX8_scan 110 = .ok (.return_, 1) := by decide +kernel
theorem dX8_scan_111 : decode cX8_scan 111 = .ok (.aload_n 0, 1) := by decide +kernel
theorem dX8_scan_112 : decode cX8_scan 112 = .ok (.invokevirtual 103, 3) := by decide +kernel
theorem dX8_scan_115 : decode cX8_scan 115 = .ok (.aload_n 0, 1) := by decide +kernel
theorem dX8_scan_116 : decode cX8_scan 116 = .ok (.getfield 15, 3) := by decide +kernel
theorem dX8_scan_119 : decode cX8_scan 119 = .ok (.invokevirtual 106, 3) := by decide +kernel
theorem dX8_scan_122 : decode cX8_scan 122 = .ok (.iconst 1, 1) := by decide +kernel
theorem dX8_scan_123 : decode cX8_scan 123 = .ok (.if_icmp .ne 4, 3) := by decide +kernel
theorem dX8_scan_126 : decode cX8_scan 126 = .ok (.return_, 1) := by decide +kernel
theorem dX8_scan_127 : decode cX8_scan 127 = .ok (.iinc 1 1, 3) := by decide +kernel
theorem dX8_scan_130 : decode cX8_scan 130 = .ok (.goto (-57), 3) := by decide +kernel
theorem dX8_scan_133 : decode cX8_scan 133 = .ok (.return_, 1) := by decide +kernel
set_option maxHeartbeats 4000000 in
set_option maxRecDepth 100000 in
theorem c_S_scan0 (l : Launch) (d : gD) (b : Nat) (Y : gYt) (F : gM) (S : gSt) (hW : gWT d Y F S) (hz0 : sZ S 0 = 0) (hn0 : sN S 0 = 16) (hz14 : sZ S 14 = 0) (hn14 : sN S 14 = 16) (hz15 : sZ S 15 = 0) (hn15 : sN S 15 = 16) (hz16 : sZ S 16 = 0) (hn16 : sN S 16 = 16) : gMv l d b yX8_scan cX8_scan 2 4 0 0 F [.ref (gO' Y 3)] (fun F' => ∃ S', gWT d Y F' S' ∧ gKp Y F F' ∧ gSm S S' [14, 15, 16, 17, 18, 19, 20] [8, 9] ∧ sZ S' 14 = 0 + 1 ∧ sF S' 14 0 = 0 ∧ sF S' 16 0 = 0) := by
  refine gM_of2 rfl (nL := 2) (Nat.le_of_ble_eq_true rfl) ?_
  intro X hX hC; subst hX
  show gG X d b _ F 0 0 0 [some (.ref (gO' Y 3)), none] []
  have hM0 : gSm S S [14, 15, 16, 17, 18, 19, 20] [8, 9] := gSm.rf
  have hK0 : gKp Y F F := gKp.rf
  refine g_aload_n hC dX8_scan_0 rfl ?_
  refine g_get hC fl_X8_15 (hW.o 3 (by decide)) rfl dX8_scan_1 ?_
  refine g_iconst (v := 0) hC dX8_scan_4 rfl ?_
  refine g_callVv (As := [.int 0]) hC rfl (hW.r 14 (by decide)).1 (c_Ints_cut X.la d b F _ _ _ _ _ _ (hW.r 14 (by decide)) 0) cl_X8_82 rfl rfl (Nat.le_of_ble_eq_true rfl) (gFit_of (Nat.le_of_ble_eq_true rfl) (Nat.le_of_ble_eq_true rfl) (by first | exact Nat.le_of_ble_eq_true rfl | omega | (simp only [gR]; omega)) (by first | exact Nat.le_of_ble_eq_true rfl | omega | (simp only [gR]; omega))) dX8_scan_5 (fun F2 p3 => ?_)
  obtain ⟨S4, hW5, k6, s7, u8, u9, u10, u11, u12⟩ := wt_cut hW (by decide) p3
  have hM13 : gSm S S4 [14, 15, 16, 17, 18, 19, 20] [8, 9] := hM0.tr s7 _ _ rfl rfl
  have hK14 : gKp Y F F2 := hK0.tr k6
  have z15 : sZ S4 0 = 0 := (s7.z 0 (by decide)).trans hz0
  have z16 : sN S4 0 = 16 := (s7.n 0 (by decide)).trans hn0
  have z17 : sZ S4 15 = 0 := (s7.z 15 (by decide)).trans hz15
  have z18 : sN S4 15 = 16 := (s7.n 15 (by decide)).trans hn15
  have z19 : sZ S4 16 = 0 := (s7.z 16 (by decide)).trans hz16
  have z20 : sN S4 16 = 16 := (s7.n 16 (by decide)).trans hn16
  have z21 : sZ S4 14 = 0 := Nat.le_zero.mp (Nat.le_trans u12 (Nat.le_of_eq hz14))
  have z22 : sN S4 14 = 16 := u8.trans hn14
  clear hz0 hn0 hz14 hn14 hz15 hn15 hz16 hn16 hM0 hK0 s7 k6 hW p3 u8 u9 u10 u11 u12
  refine g_aload_n hC dX8_scan_8 rfl ?_
  refine g_get hC fl_X8_21 (hW5.o 3 (by decide)) rfl dX8_scan_9 ?_
  refine g_iconst (v := 0) hC dX8_scan_12 rfl ?_
  refine g_callVv (As := [.int 0]) hC rfl (hW5.r 15 (by decide)).1 (c_Ints_cut X.la d b F2 _ _ _ _ _ _ (hW5.r 15 (by decide)) 0) cl_X8_82 rfl rfl (Nat.le_of_ble_eq_true rfl) (gFit_of (Nat.le_of_ble_eq_true rfl) (Nat.le_of_ble_eq_true rfl) (by first | exact Nat.le_of_ble_eq_true rfl | omega | (simp only [gR]; omega)) (by first | exact Nat.le_of_ble_eq_true rfl | omega | (simp only [gR]; omega))) dX8_scan_13 (fun F24 p25 => ?_)
  obtain ⟨S26, hW27, k28, s29, u30, u31, u32, u33, u34⟩ := wt_cut hW5 (by decide) p25
  have hM35 : gSm S S26 [14, 15, 16, 17, 18, 19, 20] [8, 9] := hM13.tr s29 _ _ rfl rfl
  have hK36 : gKp Y F F24 := hK14.tr k28
  have z37 : sZ S26 0 = 0 := (s29.z 0 (by decide)).trans z15
  have z38 : sN S26 0 = 16 := (s29.n 0 (by decide)).trans z16
  have z39 : sZ S26 16 = 0 := (s29.z 16 (by decide)).trans z19
  have z40 : sN S26 16 = 16 := (s29.n 16 (by decide)).trans z20
  have z41 : sZ S26 14 = 0 := (s29.z 14 (by decide)).trans z21
  have z42 : sN S26 14 = 16 := (s29.n 14 (by decide)).trans z22
  have z43 : sZ S26 15 = 0 := Nat.le_zero.mp (Nat.le_trans u34 (Nat.le_of_eq z17))
  have z44 : sN S26 15 = 16 := u30.trans z18
  clear z15 z16 z17 z18 z19 z20 z21 z22 hM13 hK14 s29 k28 hW5 p25 u30 u31 u32 u33 u34
  refine g_aload_n hC dX8_scan_16 rfl ?_
  refine g_get hC fl_X8_24 (hW27.o 3 (by decide)) rfl dX8_scan_17 ?_
  refine g_iconst (v := 0) hC dX8_scan_20 rfl ?_
  refine g_callVv (As := [.int 0]) hC rfl (hW27.r 16 (by decide)).1 (c_Ints_cut X.la d b F24 _ _ _ _ _ _ (hW27.r 16 (by decide)) 0) cl_X8_82 rfl rfl (Nat.le_of_ble_eq_true rfl) (gFit_of (Nat.le_of_ble_eq_true rfl) (Nat.le_of_ble_eq_true rfl) (by first | exact Nat.le_of_ble_eq_true rfl | omega | (simp only [gR]; omega)) (by first | exact Nat.le_of_ble_eq_true rfl | omega | (simp only [gR]; omega))) dX8_scan_21 (fun F46 p47 => ?_)
  obtain ⟨S48, hW49, k50, s51, u52, u53, u54, u55, u56⟩ := wt_cut hW27 (by decide) p47
  have hM57 : gSm S S48 [14, 15, 16, 17, 18, 19, 20] [8, 9] := hM35.tr s51 _ _ rfl rfl
  have hK58 : gKp Y F F46 := hK36.tr k50
  have z59 : sZ S48 0 = 0 := (s51.z 0 (by decide)).trans z37
  have z60 : sN S48 0 = 16 := (s51.n 0 (by decide)).trans z38
  have z61 : sZ S48 14 = 0 := (s51.z 14 (by decide)).trans z41
  have z62 : sN S48 14 = 16 := (s51.n 14 (by decide)).trans z42
  have z63 : sZ S48 15 = 0 := (s51.z 15 (by decide)).trans z43
  have z64 : sN S48 15 = 16 := (s51.n 15 (by decide)).trans z44
  have z65 : sZ S48 16 = 0 := Nat.le_zero.mp (Nat.le_trans u56 (Nat.le_of_eq z39))
  have z66 : sN S48 16 = 16 := u52.trans z40
  clear z37 z38 z39 z40 z41 z42 z43 z44 hM35 hK36 s51 k50 hW27 p47 u52 u53 u54 u55 u56
  refine g_aload_n hC dX8_scan_24 rfl ?_
  refine g_get hC fl_X8_27 (hW49.o 3 (by decide)) rfl dX8_scan_25 ?_
  refine g_iconst (v := 0) hC dX8_scan_28 rfl ?_
  refine g_callVv (As := [.int 0]) hC rfl (hW49.r 17 (by decide)).1 (c_Ints_cut X.la d b F46 _ _ _ _ _ _ (hW49.r 17 (by decide)) 0) cl_X8_82 rfl rfl (Nat.le_of_ble_eq_true rfl) (gFit_of (Nat.le_of_ble_eq_true rfl) (Nat.le_of_ble_eq_true rfl) (by first | exact Nat.le_of_ble_eq_true rfl | omega | (simp only [gR]; omega)) (by first | exact Nat.le_of_ble_eq_true rfl | omega | (simp only [gR]; omega))) dX8_scan_29 (fun F68 p69 => ?_)
  obtain ⟨S70, hW71, k72, s73, u74, u75, u76, u77, u78⟩ := wt_cut hW49 (by decide) p69
  have hM79 : gSm S S70 [14, 15, 16, 17, 18, 19, 20] [8, 9] := hM57.tr s73 _ _ rfl rfl
  have hK80 : gKp Y F F68 := hK58.tr k72
  have z81 : sZ S70 0 = 0 := (s73.z 0 (by decide)).trans z59
  have z82 : sN S70 0 = 16 := (s73.n 0 (by decide)).trans z60
  have z83 : sZ S70 14 = 0 := (s73.z 14 (by decide)).trans z61
  have z84 : sN S70 14 = 16 := (s73.n 14 (by decide)).trans z62
  have z85 : sZ S70 15 = 0 := (s73.z 15 (by decide)).trans z63
  have z86 : sN S70 15 = 16 := (s73.n 15 (by decide)).trans z64
  have z87 : sZ S70 16 = 0 := (s73.z 16 (by decide)).trans z65
  have z88 : sN S70 16 = 16 := (s73.n 16 (by decide)).trans z66
  clear z59 z60 z61 z62 z63 z64 z65 z66 hM57 hK58 s73 k72 hW49 p69 u74 u75 u76 u77 u78
  refine g_aload_n hC dX8_scan_32 rfl ?_
  refine g_get hC fl_X8_30 (hW71.o 3 (by decide)) rfl dX8_scan_33 ?_
  refine g_aload_n hC dX8_scan_36 rfl ?_
  refine g_get hC fl_X8_66 (hW71.o 3 (by decide)) rfl dX8_scan_37 ?_
  refine g_callVv (As := [.int (sV S70 7)]) hC rfl (hW71.r 18 (by decide)).1 (c_Ints_cut X.la d b F68 _ _ _ _ _ _ (hW71.r 18 (by decide)) (sV S70 7)) cl_X8_82 rfl rfl (Nat.le_of_ble_eq_true rfl) (gFit_of (Nat.le_of_ble_eq_true rfl) (Nat.le_of_ble_eq_true rfl) (by first | exact Nat.le_of_ble_eq_true rfl | omega | (simp only [gR]; omega)) (by first | exact Nat.le_of_ble_eq_true rfl | omega | (simp only [gR]; omega))) dX8_scan_40 (fun F90 p91 => ?_)
  obtain ⟨S92, hW93, k94, s95, u96, u97, u98, u99, u100⟩ := wt_cut hW71 (by decide) p91
  have hM101 : gSm S S92 [14, 15, 16, 17, 18, 19, 20] [8, 9] := hM79.tr s95 _ _ rfl rfl
  have hK102 : gKp Y F F90 := hK80.tr k94
  have z103 : sZ S92 0 = 0 := (s95.z 0 (by decide)).trans z81
  have z104 : sN S92 0 = 16 := (s95.n 0 (by decide)).trans z82
  have z105 : sZ S92 14 = 0 := (s95.z 14 (by decide)).trans z83
  have z106 : sN S92 14 = 16 := (s95.n 14 (by decide)).trans z84
  have z107 : sZ S92 15 = 0 := (s95.z 15 (by decide)).trans z85
  have z108 : sN S92 15 = 16 := (s95.n 15 (by decide)).trans z86
  have z109 : sZ S92 16 = 0 := (s95.z 16 (by decide)).trans z87
  have z110 : sN S92 16 = 16 := (s95.n 16 (by decide)).trans z88
  clear z81 z82 z83 z84 z85 z86 z87 z88 hM79 hK80 s95 k94 hW71 p91 u96 u97 u98 u99 u100
  refine g_aload_n hC dX8_scan_43 rfl ?_
  refine g_get hC fl_X8_33 (hW93.o 3 (by decide)) rfl dX8_scan_44 ?_
  refine g_bipush (v := 61) hC dX8_scan_47 rfl ?_
  refine g_callVv (As := [.int 61]) hC rfl (hW93.r 19 (by decide)).1 (c_Ints_cut X.la d b F90 _ _ _ _ _ _ (hW93.r 19 (by decide)) 61) cl_X8_82 rfl rfl (Nat.le_of_ble_eq_true rfl) (gFit_of (Nat.le_of_ble_eq_true rfl) (Nat.le_of_ble_eq_true rfl) (by first | exact Nat.le_of_ble_eq_true rfl | omega | (simp only [gR]; omega)) (by first | exact Nat.le_of_ble_eq_true rfl | omega | (simp only [gR]; omega))) dX8_scan_49 (fun F112 p113 => ?_)
  obtain ⟨S114, hW115, k116, s117, u118, u119, u120, u121, u122⟩ := wt_cut hW93 (by decide) p113
  have hM123 : gSm S S114 [14, 15, 16, 17, 18, 19, 20] [8, 9] := hM101.tr s117 _ _ rfl rfl
  have hK124 : gKp Y F F112 := hK102.tr k116
  have z125 : sZ S114 0 = 0 := (s117.z 0 (by decide)).trans z103
  have z126 : sN S114 0 = 16 := (s117.n 0 (by decide)).trans z104
  have z127 : sZ S114 14 = 0 := (s117.z 14 (by decide)).trans z105
  have z128 : sN S114 14 = 16 := (s117.n 14 (by decide)).trans z106
  have z129 : sZ S114 15 = 0 := (s117.z 15 (by decide)).trans z107
  have z130 : sN S114 15 = 16 := (s117.n 15 (by decide)).trans z108
  have z131 : sZ S114 16 = 0 := (s117.z 16 (by decide)).trans z109
  have z132 : sN S114 16 = 16 := (s117.n 16 (by decide)).trans z110
  clear z103 z104 z105 z106 z107 z108 z109 z110 hM101 hK102 s117 k116 hW93 p113 u118 u119 u120 u121 u122
  refine g_aload_n hC dX8_scan_52 rfl ?_
  refine g_get hC fl_X8_36 (hW115.o 3 (by decide)) rfl dX8_scan_53 ?_
  refine g_bipush (v := 61) hC dX8_scan_56 rfl ?_
  refine g_callVv (As := [.int 61]) hC rfl (hW115.r 20 (by decide)).1 (c_Ints_cut X.la d b F112 _ _ _ _ _ _ (hW115.r 20 (by decide)) 61) cl_X8_82 rfl rfl (Nat.le_of_ble_eq_true rfl) (gFit_of (Nat.le_of_ble_eq_true rfl) (Nat.le_of_ble_eq_true rfl) (by first | exact Nat.le_of_ble_eq_true rfl | omega | (simp only [gR]; omega)) (by first | exact Nat.le_of_ble_eq_true rfl | omega | (simp only [gR]; omega))) dX8_scan_58 (fun F134 p135 => ?_)
  obtain ⟨S136, hW137, k138, s139, u140, u141, u142, u143, u144⟩ := wt_cut hW115 (by decide) p135
  have hM145 : gSm S S136 [14, 15, 16, 17, 18, 19, 20] [8, 9] := hM123.tr s139 _ _ rfl rfl
  have hK146 : gKp Y F F134 := hK124.tr k138
  have z147 : sZ S136 0 = 0 := (s139.z 0 (by decide)).trans z125
  have z148 : sN S136 0 = 16 := (s139.n 0 (by decide)).trans z126
  have z149 : sZ S136 14 = 0 := (s139.z 14 (by decide)).trans z127
  have z150 : sN S136 14 = 16 := (s139.n 14 (by decide)).trans z128
  have z151 : sZ S136 15 = 0 := (s139.z 15 (by decide)).trans z129
  have z152 : sN S136 15 = 16 := (s139.n 15 (by decide)).trans z130
  have z153 : sZ S136 16 = 0 := (s139.z 16 (by decide)).trans z131
  have z154 : sN S136 16 = 16 := (s139.n 16 (by decide)).trans z132
  clear z125 z126 z127 z128 z129 z130 z131 z132 hM123 hK124 s139 k138 hW115 p135 u140 u141 u142 u143 u144
  refine g_aload_n hC dX8_scan_61 rfl ?_
  refine g_iconst (v := 0) hC dX8_scan_62 rfl ?_
  refine g_put hC fl_X8_39 (hW137.o 3 (by decide)) rfl rfl (Nat.le_of_ble_eq_true rfl) dX8_scan_63 ?_
  refine g_vF (fun F155 hF155 => ?_)
  obtain ⟨hW157, k158⟩ := gWT.put (k := 8) (x := 0) hW137 (i := 3) (by decide) hF155 rfl gsame_8 (fun q => absurd q (by decide))
  obtain ⟨S156, hS156⟩ : ∃ z, z = uV S136 8 0 := ⟨_, rfl⟩
  rw [← hS156] at hW157
  have s159 : gSm S136 S156 [] [8] := by rw [hS156]; exact gSm_uV
  have hM160 : gSm S S156 [14, 15, 16, 17, 18, 19, 20] [8, 9] := hM145.tr s159 _ _ rfl rfl
  have hK161 : gKp Y F F155 := hK146.tr k158
  have z162 : sZ S156 0 = 0 := (s159.z 0 (by decide)).trans z147
  have z163 : sN S156 0 = 16 := (s159.n 0 (by decide)).trans z148
  have z164 : sZ S156 14 = 0 := (s159.z 14 (by decide)).trans z149
  have z165 : sN S156 14 = 16 := (s159.n 14 (by decide)).trans z150
  have z166 : sZ S156 15 = 0 := (s159.z 15 (by decide)).trans z151
  have z167 : sN S156 15 = 16 := (s159.n 15 (by decide)).trans z152
  have z168 : sZ S156 16 = 0 := (s159.z 16 (by decide)).trans z153
  have z169 : sN S156 16 = 16 := (s159.n 16 (by decide)).trans z154
  have z170 : sV S156 8 = 0 := by rw [hS156]; exact uV_self
  clear z147 z148 z149 z150 z151 z152 z153 z154 hM145 hK146 s159 k158 hW137
  refine g_aload_n hC dX8_scan_66 rfl ?_
  refine g_iconst (v := 0) hC dX8_scan_67 rfl ?_
  refine g_put hC fl_X8_43 (hW157.o 3 (by decide)) rfl rfl (Nat.le_of_ble_eq_true rfl) dX8_scan_68 ?_
  refine g_vF (fun F171 hF171 => ?_)
  obtain ⟨hW173, k174⟩ := gWT.put (k := 9) (x := 0) hW157 (i := 3) (by decide) hF171 rfl gsame_9 (fun _ => by decide)
  obtain ⟨S172, hS172⟩ : ∃ z, z = uV S156 9 0 := ⟨_, rfl⟩
  rw [← hS172] at hW173
  have s175 : gSm S156 S172 [] [9] := by rw [hS172]; exact gSm_uV
  have hM176 : gSm S S172 [14, 15, 16, 17, 18, 19, 20] [8, 9] := hM160.tr s175 _ _ rfl rfl
  have hK177 : gKp Y F F171 := hK161.tr k174
  have z178 : sZ S172 0 = 0 := (s175.z 0 (by decide)).trans z162
  have z179 : sN S172 0 = 16 := (s175.n 0 (by decide)).trans z163
  have z180 : sZ S172 14 = 0 := (s175.z 14 (by decide)).trans z164
  have z181 : sN S172 14 = 16 := (s175.n 14 (by decide)).trans z165
  have z182 : sZ S172 15 = 0 := (s175.z 15 (by decide)).trans z166
  have z183 : sN S172 15 = 16 := (s175.n 15 (by decide)).trans z167
  have z184 : sZ S172 16 = 0 := (s175.z 16 (by decide)).trans z168
  have z185 : sN S172 16 = 16 := (s175.n 16 (by decide)).trans z169
  have z186 : sV S172 8 = 0 := (s175.v 8 (by decide)).trans z170
  have z187 : sV S172 9 = 0 := by rw [hS172]; exact uV_self
  clear z162 z163 z164 z165 z166 z167 z168 z169 z170 hM160 hK161 s175 k174 hW157
  refine g_iconst (v := 0) hC dX8_scan_71 rfl ?_
  refine g_istore_n (lv' := [some (.ref (gO' Y 3)), some (.int 0)]) hC dX8_scan_72 (Nat.le_of_ble_eq_true rfl) rfl rfl ?_
  refine g_iload_n hC dX8_scan_73 rfl ?_
  refine g_ldc hC dX8_scan_74 kw_370 ?_
  refine g_icmp_ge (tgt := 133) hC dX8_scan_76 (by decide) (fun c188 => ?_) (fun c188 => ?_)
  · exact absurd c188 (by decide)
  · refine g_aload_n hC dX8_scan_79 rfl ?_
    refine g_callVv (As := []) hC rfl (hW173.o 3 (by decide)) (c_S_pass0 X.la d b Y F171 S172 hW173 z178 z186) cl_X8_96 rfl rfl (Nat.le_of_ble_eq_true rfl) (gFit_of (Nat.le_of_ble_eq_true rfl) (Nat.le_of_ble_eq_true rfl) (by first | exact Nat.le_of_ble_eq_true rfl | omega | (simp only [gR]; omega)) (by first | exact Nat.le_of_ble_eq_true rfl | omega | (simp only [gR]; omega))) dX8_scan_80 (fun F189 p190 => ?_)
    have eF189 := p190.symm; subst eF189
    refine g_aload_n hC dX8_scan_83 rfl ?_
    refine g_get hC fl_X8_39 (hW173.o 3 (by decide)) rfl dX8_scan_84 ?_
    refine g_aload_n hC dX8_scan_87 rfl ?_
    refine g_get hC fl_X8_47 (hW173.o 3 (by decide)) rfl dX8_scan_88 ?_
    refine g_callVi (As := []) hC rfl (hW173.r 0 (by decide)).1 (c_Ints_size X.la d b F171 _ _ _ _ _ _ (hW173.r 0 (by decide))) cl_X8_62 rfl rfl (Nat.le_of_ble_eq_true rfl) (gFit_of (Nat.le_of_ble_eq_true rfl) (Nat.le_of_ble_eq_true rfl) (by first | exact Nat.le_of_ble_eq_true rfl | omega | (simp only [gR]; omega)) (by first | exact Nat.le_of_ble_eq_true rfl | omega | (simp only [gR]; omega))) dX8_scan_91 (fun r192 F193 p194 => ?_)
    obtain ⟨rfl, eF193⟩ := p194; have eF193 := eF193.symm; subst eF193
    refine g_icmp_lt (tgt := 111) hC dX8_scan_94 (by decide) (fun c195 => ?_) (fun c195 => ?_)
    · rw [z178, z186] at c195; exact absurd c195 (by decide)
    · refine g_aload_n hC dX8_scan_97 rfl ?_
      refine g_iconst (v := 0) hC dX8_scan_98 rfl ?_
      refine g_iconst (v := 0) hC dX8_scan_99 rfl ?_
      refine g_aload_n hC dX8_scan_100 rfl ?_
      refine g_get hC fl_X8_47 (hW173.o 3 (by decide)) rfl dX8_scan_101 ?_
      refine g_callVi (As := []) hC rfl (hW173.r 0 (by decide)).1 (c_Ints_size X.la d b F171 _ _ _ _ _ _ (hW173.r 0 (by decide))) cl_X8_62 rfl rfl (Nat.le_of_ble_eq_true rfl) (gFit_of (Nat.le_of_ble_eq_true rfl) (Nat.le_of_ble_eq_true rfl) (by first | exact Nat.le_of_ble_eq_true rfl | omega | (simp only [gR]; omega)) (by first | exact Nat.le_of_ble_eq_true rfl | omega | (simp only [gR]; omega))) dX8_scan_104 (fun r196 F197 p198 => ?_)
      obtain ⟨rfl, eF197⟩ := p198; have eF197 := eF197.symm; subst eF197
      refine g_callVv (As := [.int 0, .int 0, .int (nI (sZ S172 0))]) hC rfl (hW173.o 3 (by decide)) (c_S_put0 X.la d b Y F171 S172 hW173 0 0 (nI (sZ S172 0)) z187 z180 z181 z182 z183 z184 z185) cl_X8_99 rfl rfl (Nat.le_of_ble_eq_true rfl) (gFit_of (Nat.le_of_ble_eq_true rfl) (Nat.le_of_ble_eq_true rfl) (by first | exact Nat.le_of_ble_eq_true rfl | omega | (simp only [gR]; omega)) (by first | exact Nat.le_of_ble_eq_true rfl | omega | (simp only [gR]; omega))) dX8_scan_107 (fun F199 p200 => ?_)
      obtain ⟨S202, hW203, k204, s205, y206, y207, y208, y209, y210⟩ := p200
      have hM211 : gSm S S202 [14, 15, 16, 17, 18, 19, 20] [8, 9] := hM176.tr s205 _ _ rfl rfl
      have hK212 : gKp Y F F199 := hK177.tr k204
      have z213 : sZ S202 0 = 0 := (s205.z 0 (by decide)).trans z178
      have z214 : sN S202 0 = 16 := (s205.n 0 (by decide)).trans z179
      have z215 : sV S202 8 = 0 := (s205.v 8 (by decide)).trans z186
      have hu : sF S202 16 0 = 0 := y210.trans (by rw [z178]; rfl)
      clear z178 z179 z180 z181 z182 z183 z184 z185 z186 z187 hM176 hK177 s205 k204 hW173
      exact g_vret hC ⟨S202, hW203, hK212, hM211, y206, y209, hu⟩ (by first | exact Nat.le_of_ble_eq_true rfl | omega | (simp only [gR]; omega)) (by first | exact Nat.le_of_ble_eq_true rfl | omega | (simp only [gR]; omega)) dX8_scan_110
end
section
theorem kw_532 : Cond.fieldLink RX6 43 "WordTongue$Parser" "kinds" "LWordTongue$Ints;" ∈ gWs := gWm 532 (by decide +kernel) rfl
theorem kw_544 : Cond.laysFinal RX6 "WordTongue$Parser" "kinds" "LWordTongue$Ints;" ∈ gWs := gWm 544 (by decide +kernel) rfl
theorem kw_546 : Cond.laysFinal RX6 "WordTongue$Parser" "infos" "LWordTongue$Ints;" ∈ gWs := gWm 546 (by decide +kernel) rfl
theorem kw_548 : Cond.laysFinal RX6 "WordTongue$Parser" "places" "LWordTongue$Ints;" ∈ gWs := gWm 548 (by decide +kernel) rfl
theorem kw_550 : Cond.laysFinal RX6 "WordTongue$Parser" "strings" "LWordTongue$Ints;" ∈ gWs := gWm 550 (by decide +kernel) rfl
theorem kw_552 : Cond.laysFinal RX6 "WordTongue$Parser" "tree" "LWordTongue$Tree;" ∈ gWs := gWm 552 (by decide +kernel) rfl
theorem kw_554 : Cond.laysFinal RX6 "WordTongue$Parser" "program" "LWordTongue$Program;" ∈ gWs := gWm 554 (by decide +kernel) rfl
theorem kw_556 : Cond.laysFinal RX6 "WordTongue$Parser" "tags" "LWordTongue$Ints;" ∈ gWs := gWm 556 (by decide +kernel) rfl
theorem kw_558 : Cond.laysFinal RX6 "WordTongue$Parser" "signs" "LWordTongue$Ints;" ∈ gWs := gWm 558 (by decide +kernel) rfl
theorem kw_560 : Cond.laysFinal RX6 "WordTongue$Parser" "globals" "LWordTongue$Ints;" ∈ gWs := gWm 560 (by decide +kernel) rfl
theorem kw_562 : Cond.lays RX6 "WordTongue$Parser" "at" "I" ∈ gWs := gWm 562 (by decide +kernel) rfl
theorem kw_564 : Cond.lays RX6 "WordTongue$Parser" "depth" "I" ∈ gWs := gWm 564 (by decide +kernel) rfl
theorem kw_566 : Cond.lays RX6 "WordTongue$Parser" "root" "I" ∈ gWs := gWm 566 (by decide +kernel) rfl
set_option maxRecDepth 20000 in
theorem inW_RX6 : ∀ w ∈ u_ws RX6 TX6 12, w ∈ gWs := List.forall_mem_cons.mpr ⟨kw_544, List.forall_mem_cons.mpr ⟨kw_546, List.forall_mem_cons.mpr ⟨kw_548, List.forall_mem_cons.mpr ⟨kw_550, List.forall_mem_cons.mpr ⟨kw_552, List.forall_mem_cons.mpr ⟨kw_554, List.forall_mem_cons.mpr ⟨kw_556, List.forall_mem_cons.mpr ⟨kw_558, List.forall_mem_cons.mpr ⟨kw_560, List.forall_mem_cons.mpr ⟨kw_562, List.forall_mem_cons.mpr ⟨kw_564, List.forall_mem_cons.mpr ⟨kw_566, fun _ h => nomatch h⟩⟩⟩⟩⟩⟩⟩⟩⟩⟩⟩⟩
theorem fl_X6_43 : gFL RX6 43 6 0 (.object "WordTongue$Ints") true := ⟨RX6, TX6, 12, tyX6, rfl, by decide, inW_RX6, kw_532, tyX6_ok, nmX6, rfl, by decide +kernel, fun _ => rfl⟩
theorem kw_541 : Cond.fieldLink RX6 27 "WordTongue$Parser" "at" "I" ∈ gWs := gWm 541 (by decide +kernel) rfl
theorem fl_X6_27 : gFL RX6 27 6 9 .int false := ⟨RX6, TX6, 12, tyX6, rfl, by decide, inW_RX6, kw_541, tyX6_ok, nmX6, rfl, by decide +kernel, fun h => by cases h⟩
theorem kw_436 : Cond.code yX4_get cX4_get 2 (some .int) ∈ gWs := gWm 436 (by decide +kernel) rfl
theorem kw_971 : Cond.methodLink RX6 82 yX4_get ∈ gWs := gWm 971 (by decide +kernel) rfl
theorem kw_434 : Cond.instanceMethod yX4_get ∈ gWs := gWm 434 (by decide +kernel) rfl
theorem kw_435 : Cond.selects RX4 yX4_get yX4_get ∈ gWs := gWm 435 (by decide +kernel) rfl
theorem cl_X6_82 : gCV RX6 82 yX4_get cX4_get 2 (some .int) 1 := ⟨g_mk [.methodLink RX6 82 yX4_get, .instanceMethod yX4_get, .selects yX4_get.cls yX4_get yX4_get, .initialized yX4_get.cls] (gWs_all kw_436) (List.forall_mem_cons.mpr ⟨kw_971, List.forall_mem_cons.mpr ⟨kw_434, List.forall_mem_cons.mpr ⟨kw_435, List.forall_mem_cons.mpr ⟨kw_239, fun _ h => nomatch h⟩⟩⟩⟩), rfl, by decide +kernel, by decide +kernel, by decide +kernel⟩
theorem kw_534 : Cond.fieldLink RX6 53 "WordTongue$Parser" "places" "LWordTongue$Ints;" ∈ gWs := gWm 534 (by decide +kernel) rfl
theorem fl_X6_53 : gFL RX6 53 6 2 (.object "WordTongue$Ints") true := ⟨RX6, TX6, 12, tyX6, rfl, by decide, inW_RX6, kw_534, tyX6_ok, nmX6, rfl, by decide +kernel, fun _ => rfl⟩
theorem kw_537 : Cond.fieldLink RX6 64 "WordTongue$Parser" "program" "LWordTongue$Program;" ∈ gWs := gWm 537 (by decide +kernel) rfl
theorem fl_X6_64 : gFL RX6 64 6 5 (.object "WordTongue$Program") true := ⟨RX6, TX6, 12, tyX6, rfl, by decide, inW_RX6, kw_537, tyX6_ok, nmX6, rfl, by decide +kernel, fun _ => rfl⟩
theorem kw_1008 : Cond.code yX7_blame cX7_blame 4 none ∈ gWs := gWm 1008 (by decide +kernel) rfl
theorem kw_1005 : Cond.methodLink RX6 86 yX7_blame ∈ gWs := gWm 1005 (by decide +kernel) rfl
theorem kw_1006 : Cond.instanceMethod yX7_blame ∈ gWs := gWm 1006 (by decide +kernel) rfl
theorem kw_1007 : Cond.selects RX7 yX7_blame yX7_blame ∈ gWs := gWm 1007 (by decide +kernel) rfl
theorem cl_X6_86 : gCV RX6 86 yX7_blame cX7_blame 4 none 2 := ⟨g_mk [.methodLink RX6 86 yX7_blame, .instanceMethod yX7_blame, .selects yX7_blame.cls yX7_blame yX7_blame, .initialized yX7_blame.cls] (gWs_all kw_1008) (List.forall_mem_cons.mpr ⟨kw_1005, List.forall_mem_cons.mpr ⟨kw_1006, List.forall_mem_cons.mpr ⟨kw_1007, List.forall_mem_cons.mpr ⟨kw_240, fun _ h => nomatch h⟩⟩⟩⟩), rfl, by decide +kernel, by decide +kernel, by decide +kernel⟩
theorem kw_950 : Cond.classLink RX6 80 "java/lang/IllegalStateException" ∈ gWs := gWm 950 (by decide +kernel) rfl
theorem kw_261 : Cond.initialized "java/lang/IllegalStateException" ∈ gWs := gWm 261 (by decide +kernel) rfl
theorem kw_250 : Cond.initialized RX6 ∈ gWs := gWm 250 (by decide +kernel) rfl
theorem kw_980 : Cond.code yX6_kind cX6_kind 1 (some .int) ∈ gWs := gWm 980 (by decide +kernel) rfl
theorem kw_977 : Cond.methodLink RX6 97 yX6_kind ∈ gWs := gWm 977 (by decide +kernel) rfl
theorem kw_979 : Cond.instanceMethod yX6_kind ∈ gWs := gWm 979 (by decide +kernel) rfl
theorem kw_18 : Cond.selects RX6 yX6_kind yX6_kind ∈ gWs := gWm 18 (by decide +kernel) rfl
theorem cl_X6_97 : gCV RX6 97 yX6_kind cX6_kind 1 (some .int) 0 := ⟨g_mk [.methodLink RX6 97 yX6_kind, .instanceMethod yX6_kind, .selects yX6_kind.cls yX6_kind yX6_kind, .initialized yX6_kind.cls] (gWs_all kw_980) (List.forall_mem_cons.mpr ⟨kw_977, List.forall_mem_cons.mpr ⟨kw_979, List.forall_mem_cons.mpr ⟨kw_18, List.forall_mem_cons.mpr ⟨kw_250, fun _ h => nomatch h⟩⟩⟩⟩), rfl, by decide +kernel, by decide +kernel, by decide +kernel⟩
theorem kw_1004 : Cond.code yX6_refuse cX6_refuse 1 none ∈ gWs := gWm 1004 (by decide +kernel) rfl
theorem kw_1001 : Cond.methodLink RX6 100 yX6_refuse ∈ gWs := gWm 1001 (by decide +kernel) rfl
theorem kw_1003 : Cond.instanceMethod yX6_refuse ∈ gWs := gWm 1003 (by decide +kernel) rfl
theorem kw_24 : Cond.selects RX6 yX6_refuse yX6_refuse ∈ gWs := gWm 24 (by decide +kernel) rfl
theorem cl_X6_100 : gCV RX6 100 yX6_refuse cX6_refuse 1 none 0 := ⟨g_mk [.methodLink RX6 100 yX6_refuse, .instanceMethod yX6_refuse, .selects yX6_refuse.cls yX6_refuse yX6_refuse, .initialized yX6_refuse.cls] (gWs_all kw_1004) (List.forall_mem_cons.mpr ⟨kw_1001, List.forall_mem_cons.mpr ⟨kw_1003, List.forall_mem_cons.mpr ⟨kw_24, List.forall_mem_cons.mpr ⟨kw_250, fun _ h => nomatch h⟩⟩⟩⟩), rfl, by decide +kernel, by decide +kernel, by decide +kernel⟩
theorem kw_536 : Cond.fieldLink RX6 60 "WordTongue$Parser" "tree" "LWordTongue$Tree;" ∈ gWs := gWm 536 (by decide +kernel) rfl
theorem fl_X6_60 : gFL RX6 60 6 4 (.object "WordTongue$Tree") true := ⟨RX6, TX6, 12, tyX6, rfl, by decide, inW_RX6, kw_536, tyX6_ok, nmX6, rfl, by decide +kernel, fun _ => rfl⟩
theorem kw_970 : Cond.code yX6_place cX6_place 1 (some .int) ∈ gWs := gWm 970 (by decide +kernel) rfl
theorem kw_967 : Cond.methodLink RX6 112 yX6_place ∈ gWs := gWm 967 (by decide +kernel) rfl
theorem kw_969 : Cond.instanceMethod yX6_place ∈ gWs := gWm 969 (by decide +kernel) rfl
theorem kw_16 : Cond.selects RX6 yX6_place yX6_place ∈ gWs := gWm 16 (by decide +kernel) rfl
theorem cl_X6_112 : gCV RX6 112 yX6_place cX6_place 1 (some .int) 0 := ⟨g_mk [.methodLink RX6 112 yX6_place, .instanceMethod yX6_place, .selects yX6_place.cls yX6_place yX6_place, .initialized yX6_place.cls] (gWs_all kw_970) (List.forall_mem_cons.mpr ⟨kw_967, List.forall_mem_cons.mpr ⟨kw_969, List.forall_mem_cons.mpr ⟨kw_16, List.forall_mem_cons.mpr ⟨kw_250, fun _ h => nomatch h⟩⟩⟩⟩), rfl, by decide +kernel, by decide +kernel, by decide +kernel⟩
theorem kw_972 : Cond.methodLink RX6 115 yX10_node ∈ gWs := gWm 972 (by decide +kernel) rfl
theorem cl_X6_115 : gCV RX6 115 yX10_node cX10_node 4 (some .int) 3 := ⟨g_mk [.methodLink RX6 115 yX10_node, .instanceMethod yX10_node, .selects yX10_node.cls yX10_node yX10_node, .initialized yX10_node.cls] (gWs_all kw_959) (List.forall_mem_cons.mpr ⟨kw_972, List.forall_mem_cons.mpr ⟨kw_957, List.forall_mem_cons.mpr ⟨kw_958, List.forall_mem_cons.mpr ⟨kw_241, fun _ h => nomatch h⟩⟩⟩⟩), rfl, by decide +kernel, by decide +kernel, by decide +kernel⟩
theorem kw_1086 : Cond.code yX6_due cX6_due 2 none ∈ gWs := gWm 1086 (by decide +kernel) rfl
theorem kw_1083 : Cond.methodLink RX6 109 yX6_due ∈ gWs := gWm 1083 (by decide +kernel) rfl
theorem kw_1085 : Cond.instanceMethod yX6_due ∈ gWs := gWm 1085 (by decide +kernel) rfl
theorem kw_28 : Cond.selects RX6 yX6_due yX6_due ∈ gWs := gWm 28 (by decide +kernel) rfl
theorem cl_X6_109 : gCV RX6 109 yX6_due cX6_due 2 none 1 := ⟨g_mk [.methodLink RX6 109 yX6_due, .instanceMethod yX6_due, .selects yX6_due.cls yX6_due yX6_due, .initialized yX6_due.cls] (gWs_all kw_1086) (List.forall_mem_cons.mpr ⟨kw_1083, List.forall_mem_cons.mpr ⟨kw_1085, List.forall_mem_cons.mpr ⟨kw_28, List.forall_mem_cons.mpr ⟨kw_250, fun _ h => nomatch h⟩⟩⟩⟩), rfl, by decide +kernel, by decide +kernel, by decide +kernel⟩
theorem kw_514 : Cond.constant RX6 11 1000000 ∈ gWs := gWm 514 (by decide +kernel) rfl
theorem kw_976 : Cond.code yX6_declaration cX6_declaration 5 (some .int) ∈ gWs := gWm 976 (by decide +kernel) rfl
theorem kw_973 : Cond.methodLink RX6 119 yX6_declaration ∈ gWs := gWm 973 (by decide +kernel) rfl
theorem kw_975 : Cond.instanceMethod yX6_declaration ∈ gWs := gWm 975 (by decide +kernel) rfl
theorem kw_17 : Cond.selects RX6 yX6_declaration yX6_declaration ∈ gWs := gWm 17 (by decide +kernel) rfl
theorem cl_X6_119 : gCV RX6 119 yX6_declaration cX6_declaration 5 (some .int) 1 := ⟨g_mk [.methodLink RX6 119 yX6_declaration, .instanceMethod yX6_declaration, .selects yX6_declaration.cls yX6_declaration yX6_declaration, .initialized yX6_declaration.cls] (gWs_all kw_976) (List.forall_mem_cons.mpr ⟨kw_973, List.forall_mem_cons.mpr ⟨kw_975, List.forall_mem_cons.mpr ⟨kw_17, List.forall_mem_cons.mpr ⟨kw_250, fun _ h => nomatch h⟩⟩⟩⟩), rfl, by decide +kernel, by decide +kernel, by decide +kernel⟩
theorem gGet00 {f : Nat → Int32} {z : Nat} (h : f 0 = 0) : gGet f z 0 = 0 := by
  unfold gGet
  rw [if_neg (by decide)]
  split
  · exact h
  · rfl
theorem dX6_kind_0 : decode cX6_kind 0 = .ok (.aload_n 0, 1) := by decide +kernel
theorem dX6_kind_1 : decode cX6_kind 1 = .ok (.getfield 43, 3) := by decide +kernel
theorem dX6_kind_4 : decode cX6_kind 4 = .ok (.aload_n 0, 1) := by decide +kernel
theorem dX6_kind_5 : decode cX6_kind 5 = .ok (.getfield 27, 3) := by decide +kernel
theorem dX6_kind_8 : decode cX6_kind 8 = .ok (.invokevirtual 82, 3) := by decide +kernel
theorem dX6_kind_11 : decode cX6_kind 11 = .ok (.ireturn, 1) := by decide +kernel
set_option maxHeartbeats 4000000 in
set_option maxRecDepth 100000 in
theorem c_Pa_kind (l : Launch) (d : gD) (b : Nat) (Y : gYt) (F : gM) (S : gSt) (hW : gWT d Y F S)  : gMi l d b yX6_kind cX6_kind 1 .int 1 0 0 F [.ref (gO' Y 4)] (fun r F' => r = gGet (sF S 14) (sZ S 14) (sV S 10) ∧ F' = F) := by
  refine gM_of2 rfl (nL := 1) (Nat.le_of_ble_eq_true rfl) ?_
  intro X hX hC; subst hX
  show gG X d b _ F 0 0 0 [some (.ref (gO' Y 4))] []
  have hM0 : gSm S S [] [] := gSm.rf
  have hK0 : gKp Y F F := gKp.rf
  refine g_aload_n hC dX6_kind_0 rfl ?_
  refine g_get hC fl_X6_43 (hW.o 4 (by decide)) rfl dX6_kind_1 ?_
  refine g_aload_n hC dX6_kind_4 rfl ?_
  refine g_get hC fl_X6_27 (hW.o 4 (by decide)) rfl dX6_kind_5 ?_
  refine g_callVi (As := [.int (sV S 10)]) hC rfl (hW.r 14 (by decide)).1 (c_Ints_get X.la d b F _ _ _ _ _ _ (hW.r 14 (by decide)) (sV S 10)) cl_X6_82 rfl rfl (Nat.le_of_ble_eq_true rfl) (gFit_of (Nat.le_of_ble_eq_true rfl) (Nat.le_of_ble_eq_true rfl) (by first | exact Nat.le_of_ble_eq_true rfl | omega | (simp only [gR]; omega)) (by first | exact Nat.le_of_ble_eq_true rfl | omega | (simp only [gR]; omega))) dX6_kind_8 (fun r1 F2 p3 => ?_)
  obtain ⟨er1, eF2⟩ := p3; have eF2 := eF2.symm; subst eF2
  exact g_iret hC rfl ⟨er1, rfl⟩ (by first | exact Nat.le_of_ble_eq_true rfl | omega | (simp only [gR]; omega)) (by first | exact Nat.le_of_ble_eq_true rfl | omega | (simp only [gR]; omega)) dX6_kind_11
theorem dX6_place_0 : decode cX6_place 0 = .ok (.aload_n 0, 1) := by decide +kernel
theorem dX6_place_1 : decode cX6_place 1 = .ok (.getfield 53, 3) := by decide +kernel
theorem dX6_place_4 : decode cX6_place 4 = .ok (.aload_n 0, 1) := by decide +kernel
theorem dX6_place_5 : decode cX6_place 5 = .ok (.getfield 27, 3) := by decide +kernel
theorem dX6_place_8 : decode cX6_place 8 = .ok (.invokevirtual 82, 3) := by decide +kernel
theorem dX6_place_11 : decode cX6_place 11 = .ok (.ireturn, 1) := by decide +kernel
set_option maxHeartbeats 4000000 in
set_option maxRecDepth 100000 in
theorem c_Pa_place (l : Launch) (d : gD) (b : Nat) (Y : gYt) (F : gM) (S : gSt) (hW : gWT d Y F S)  : gMi l d b yX6_place cX6_place 1 .int 1 0 0 F [.ref (gO' Y 4)] (fun r F' => r = gGet (sF S 16) (sZ S 16) (sV S 10) ∧ F' = F) := by
  refine gM_of2 rfl (nL := 1) (Nat.le_of_ble_eq_true rfl) ?_
  intro X hX hC; subst hX
  show gG X d b _ F 0 0 0 [some (.ref (gO' Y 4))] []
  have hM0 : gSm S S [] [] := gSm.rf
  have hK0 : gKp Y F F := gKp.rf
  refine g_aload_n hC dX6_place_0 rfl ?_
  refine g_get hC fl_X6_53 (hW.o 4 (by decide)) rfl dX6_place_1 ?_
  refine g_aload_n hC dX6_place_4 rfl ?_
  refine g_get hC fl_X6_27 (hW.o 4 (by decide)) rfl dX6_place_5 ?_
  refine g_callVi (As := [.int (sV S 10)]) hC rfl (hW.r 16 (by decide)).1 (c_Ints_get X.la d b F _ _ _ _ _ _ (hW.r 16 (by decide)) (sV S 10)) cl_X6_82 rfl rfl (Nat.le_of_ble_eq_true rfl) (gFit_of (Nat.le_of_ble_eq_true rfl) (Nat.le_of_ble_eq_true rfl) (by first | exact Nat.le_of_ble_eq_true rfl | omega | (simp only [gR]; omega)) (by first | exact Nat.le_of_ble_eq_true rfl | omega | (simp only [gR]; omega))) dX6_place_8 (fun r1 F2 p3 => ?_)
  obtain ⟨er1, eF2⟩ := p3; have eF2 := eF2.symm; subst eF2
  exact g_iret hC rfl ⟨er1, rfl⟩ (by first | exact Nat.le_of_ble_eq_true rfl | omega | (simp only [gR]; omega)) (by first | exact Nat.le_of_ble_eq_true rfl | omega | (simp only [gR]; omega)) dX6_place_11
set_option maxRecDepth 20000 in
theorem x_ise1 : ∀ w ∈ (vx_atS RX6 94 "java/lang/IllegalStateException" ["java/lang/RuntimeException", "java/lang/Exception"]).filter goodWord, w ∈ gWs := fun w h => List.mem_filter.mpr ⟨(by decide +kernel : ∀ w ∈ (vx_atS RX6 94 "java/lang/IllegalStateException" ["java/lang/RuntimeException", "java/lang/Exception"]).filter goodWord, w ∈ lw_tbl) w h, (List.mem_filter.mp h).2⟩
theorem x_ise2 : ∀ w ∈ (vx_atS RX6 94 "java/lang/IllegalStateException" ["java/lang/RuntimeException", "java/lang/Exception"]).filter (fun w => !goodWord w), w ∈ gCs.map (fun q => Cond.castable q.1 q.2) ++ gDs.map Cond.declares := by decide +kernel
theorem x_ise3 : ∀ w ∈ Cond.classLink RX6 80 "java/lang/IllegalStateException" :: Cond.initialized "java/lang/IllegalStateException" :: vx_atS RX6 94 "java/lang/IllegalStateException" ["java/lang/RuntimeException", "java/lang/Exception"], vx_ot w = true := by decide +kernel
theorem dX6_refuse_0 : decode cX6_refuse 0 = .ok (.aload_n 0, 1) := by decide +kernel
theorem dX6_refuse_1 : decode cX6_refuse 1 = .ok (.getfield 64, 3) := by decide +kernel
theorem dX6_refuse_4 : decode cX6_refuse 4 = .ok (.aload_n 0, 1) := by decide +kernel
theorem dX6_refuse_5 : decode cX6_refuse 5 = .ok (.getfield 43, 3) := by decide +kernel
theorem dX6_refuse_8 : decode cX6_refuse 8 = .ok (.aload_n 0, 1) := by decide +kernel
theorem dX6_refuse_9 : decode cX6_refuse 9 = .ok (.getfield 27, 3) := by decide +kernel
theorem dX6_refuse_12 : decode cX6_refuse 12 = .ok (.invokevirtual 82, 3) := by decide +kernel
theorem dX6_refuse_15 : decode cX6_refuse 15 = .ok (.iconst 1, 1) := by decide +kernel
theorem dX6_refuse_16 : decode cX6_refuse 16 = .ok (.if_icmp .ne 7, 3) := by decide +kernel
theorem dX6_refuse_19 : decode cX6_refuse 19 = .ok (.iconst 1, 1) := by decide +kernel
theorem dX6_refuse_20 : decode cX6_refuse 20 = .ok (.goto 4, 3) := by decide +kernel
theorem dX6_refuse_23 : decode cX6_refuse 23 = .ok (.iconst 2, 1) := by decide +kernel
theorem dX6_refuse_24 : decode cX6_refuse 24 = .ok (.aload_n 0, 1) := by decide +kernel
theorem dX6_refuse_25 : decode cX6_refuse 25 = .ok (.getfield 53, 3) := by decide +kernel
theorem dX6_refuse_28 : decode cX6_refuse 28 = .ok (.aload_n 0, 1) := by decide +kernel
theorem dX6_refuse_29 : decode cX6_refuse 29 = .ok (.getfield 27, 3) := by decide +kernel
theorem dX6_refuse_32 : decode cX6_refuse 32 = .ok (.invokevirtual 82, 3) := by decide +kernel
theorem dX6_refuse_35 : decode cX6_refuse 35 = .ok (.invokevirtual 86, 3) := by decide +kernel
theorem dX6_refuse_38 : decode cX6_refuse 38 = .ok (.new 80, 3) := by decide +kernel
theorem dX6_refuse_41 : decode cX6_refuse 41 = .ok (.dup, 1) := by decide +kernel
theorem dX6_refuse_42 : decode cX6_refuse 42 = .ok (.ldc 92, 2) := by decide +kernel
theorem dX6_refuse_44 : decode cX6_refuse 44 = .ok (.invokespecial 94, 3) := by decide +kernel
theorem dX6_refuse_47 : decode cX6_refuse 47 = .ok (.athrow, 1) := by decide +kernel
set_option maxHeartbeats 4000000 in
set_option maxRecDepth 100000 in
theorem c_Pa_refuse (l : Launch) (d : gD) (b : Nat) (Y : gYt) (F : gM) (S : gSt) (hW : gWT d Y F S) (hl : l.stackTraces = false) (hv4 : sV S 4 = 0) (hv10 : sV S 10 = 0) (hf14 : sF S 14 0 = 0) (hf16 : sF S 16 0 = 0) : gXv l d b yX6_refuse cX6_refuse 1 6 1 6 F [.ref (gO' Y 4)] (fun _ => False) "java/lang/IllegalStateException" (fun F' => ∃ S', gWT d Y F' S' ∧ gKp Y F F' ∧ gSm S S' [] [4, 5] ∧ sV S' 4 = 2 ∧ sV S' 5 = 0) := by
  refine gX_of2 rfl (nL := 1) (Nat.le_of_ble_eq_true rfl) ?_
  intro X hX hT hC; subst hX
  show gG X d b _ F 0 0 0 [some (.ref (gO' Y 4))] []
  have hM0 : gSm S S [] [4, 5] := gSm.rf
  have hK0 : gKp Y F F := gKp.rf
  refine g_aload_n hC dX6_refuse_0 rfl ?_
  refine g_get hC fl_X6_64 (hW.o 4 (by decide)) rfl dX6_refuse_1 ?_
  refine g_aload_n hC dX6_refuse_4 rfl ?_
  refine g_get hC fl_X6_43 (hW.o 4 (by decide)) rfl dX6_refuse_5 ?_
  refine g_aload_n hC dX6_refuse_8 rfl ?_
  refine g_get hC fl_X6_27 (hW.o 4 (by decide)) rfl dX6_refuse_9 ?_
  refine g_callVi (As := [.int (sV S 10)]) hC rfl (hW.r 14 (by decide)).1 (c_Ints_get X.la d b F _ _ _ _ _ _ (hW.r 14 (by decide)) (sV S 10)) cl_X6_82 rfl rfl (Nat.le_of_ble_eq_true rfl) (gFit_of (Nat.le_of_ble_eq_true rfl) (Nat.le_of_ble_eq_true rfl) (by first | exact Nat.le_of_ble_eq_true rfl | omega | (simp only [gR]; omega)) (by first | exact Nat.le_of_ble_eq_true rfl | omega | (simp only [gR]; omega))) dX6_refuse_12 (fun r1 F2 p3 => ?_)
  obtain ⟨er1, eF2⟩ := p3; have eF2 := eF2.symm; subst eF2
  have zr1 : r1 = 0 := by rw [er1, hv10]; exact gGet00 hf14
  subst zr1
  refine g_iconst (v := 1) hC dX6_refuse_15 rfl ?_
  refine g_icmp_ne (tgt := 23) hC dX6_refuse_16 (by decide) (fun c4 => ?_) (fun c4 => ?_)
  · refine g_iconst (v := 2) hC dX6_refuse_23 rfl ?_
    refine g_aload_n hC dX6_refuse_24 rfl ?_
    refine g_get hC fl_X6_53 (hW.o 4 (by decide)) rfl dX6_refuse_25 ?_
    refine g_aload_n hC dX6_refuse_28 rfl ?_
    refine g_get hC fl_X6_27 (hW.o 4 (by decide)) rfl dX6_refuse_29 ?_
    refine g_callVi (As := [.int (sV S 10)]) hC rfl (hW.r 16 (by decide)).1 (c_Ints_get X.la d b F _ _ _ _ _ _ (hW.r 16 (by decide)) (sV S 10)) cl_X6_82 rfl rfl (Nat.le_of_ble_eq_true rfl) (gFit_of (Nat.le_of_ble_eq_true rfl) (Nat.le_of_ble_eq_true rfl) (by first | exact Nat.le_of_ble_eq_true rfl | omega | (simp only [gR]; omega)) (by first | exact Nat.le_of_ble_eq_true rfl | omega | (simp only [gR]; omega))) dX6_refuse_32 (fun r5 F6 p7 => ?_)
    obtain ⟨er5, eF6⟩ := p7; have eF6 := eF6.symm; subst eF6
    have zr5 : r5 = 0 := by rw [er5, hv10]; exact gGet00 hf16
    subst zr5
    refine g_callVv (As := [.int 2, .int 0]) hC rfl (hW.o 1 (by decide)) (c_P_blame0 X.la d b Y F S hW 2 0 hv4) cl_X6_86 rfl rfl (Nat.le_of_ble_eq_true rfl) (gFit_of (Nat.le_of_ble_eq_true rfl) (Nat.le_of_ble_eq_true rfl) (by first | exact Nat.le_of_ble_eq_true rfl | omega | (simp only [gR]; omega)) (by first | exact Nat.le_of_ble_eq_true rfl | omega | (simp only [gR]; omega))) dX6_refuse_35 (fun F8 p9 => ?_)
    obtain ⟨S11, hW12, k13, s14, y15, y16⟩ := p9
    have hM17 : gSm S S11 [] [4, 5] := hM0.tr s14 _ _ rfl rfl
    have hK18 : gKp Y F F8 := hK0.tr k13
    clear hM0 hK0 s14 k13 hW
    exact g_throwS (is := 92) (ic := 94) (ik := 80) (i := 4) (names := ["java/lang/RuntimeException", "java/lang/Exception"]) (px := fun F' => ∃ S', gWT d Y F' S' ∧ gKp Y F F' ∧ gSm S S' [] [4, 5] ∧ sV S' 4 = 2 ∧ sV S' 5 = 0) hC hl hT (by decide +kernel) (by decide +kernel) kw_950 kw_261 rfl x_ise1 x_ise2 x_ise3 rfl dX6_refuse_38 dX6_refuse_41 dX6_refuse_42 dX6_refuse_44 dX6_refuse_47 (Nat.le_of_ble_eq_true rfl) (by decide) (gRc (Nat.le_of_ble_eq_true rfl)) (gRs (Nat.le_of_ble_eq_true rfl)) ⟨S11, hW12, hK18, hM17, y15, y16⟩ (Nat.le_of_ble_eq_true rfl) (Nat.le_of_ble_eq_true rfl)
  · exact absurd c4 (by decide)
theorem dX6_due_0 : decode cX6_due 0 = .ok (.aload_n 0, 1) := by decide +kernel
theorem dX6_due_1 : decode cX6_due 1 = .ok (.invokevirtual 97, 3) := by decide +kernel
theorem dX6_due_4 : decode cX6_due 4 = .ok (.iload_n 1, 1) := by decide +kernel
theorem dX6_due_5 : decode cX6_due 5 = .ok (.if_icmp .eq 7, 3) := by decide +kernel
theorem dX6_due_8 : decode cX6_due 8 = .ok (.aload_n 0, 1) := by decide +kernel
theorem dX6_due_9 : decode cX6_due 9 = .ok (.invokevirtual 100, 3) := by decide +kernel
theorem dX6_due_12 : decode cX6_due 12 = .ok (.aload_n 0, 1) := by decide +kernel
theorem dX6_due_13 : decode cX6_due 13 = .ok (.invokevirtual 103, 3) := by decide +kernel
theorem dX6_due_16 : decode cX6_due 16 = .ok (.return_, 1) := by decide +kernel
set_option maxHeartbeats 4000000 in
set_option maxRecDepth 100000 in
theorem c_Pa_due (l : Launch) (d : gD) (b : Nat) (Y : gYt) (F : gM) (S : gSt) (hW : gWT d Y F S) (hl : l.stackTraces = false) (hv4 : sV S 4 = 0) (hv10 : sV S 10 = 0) (hf14 : sF S 14 0 = 0) (hf16 : sF S 16 0 = 0) : gXv l d b yX6_due cX6_due 2 7 1 6 F [.ref (gO' Y 4), .int 52] (fun _ => False) "java/lang/IllegalStateException" (fun F' => ∃ S', gWT d Y F' S' ∧ gKp Y F F' ∧ gSm S S' [] [4, 5] ∧ sV S' 4 = 2 ∧ sV S' 5 = 0) := by
  refine gX_of2 rfl (nL := 2) (Nat.le_of_ble_eq_true rfl) ?_
  intro X hX hT hC; subst hX
  show gG X d b _ F 0 0 0 [some (.ref (gO' Y 4)), some (.int 52)] []
  have hM0 : gSm S S [] [4, 5] := gSm.rf
  have hK0 : gKp Y F F := gKp.rf
  refine g_aload_n hC dX6_due_0 rfl ?_
  refine g_callVi (As := []) hC rfl (hW.o 4 (by decide)) (c_Pa_kind X.la d b Y F S hW ) cl_X6_97 rfl rfl (Nat.le_of_ble_eq_true rfl) (gFit_of (Nat.le_of_ble_eq_true rfl) (Nat.le_of_ble_eq_true rfl) (by first | exact Nat.le_of_ble_eq_true rfl | omega | (simp only [gR]; omega)) (by first | exact Nat.le_of_ble_eq_true rfl | omega | (simp only [gR]; omega))) dX6_due_1 (fun r3 F1 p2 => ?_)
  obtain ⟨er3, eF1⟩ := p2; have eF1 := eF1.symm; subst eF1
  have zr3 : r3 = 0 := by rw [er3, hv10]; exact gGet00 hf14
  subst zr3
  refine g_iload_n hC dX6_due_4 rfl ?_
  refine g_icmp_eq (tgt := 12) hC dX6_due_5 (by decide) (fun c4 => ?_) (fun c4 => ?_)
  · exact absurd c4 (by decide)
  · refine g_aload_n hC dX6_due_8 rfl ?_
    refine g_xcallVv (As := []) hC rfl (hW.o 4 (by decide)) (c_Pa_refuse X.la d b Y F S hW hl hv4 hv10 hf14 hf16) cl_X6_100 rfl rfl (Nat.le_of_ble_eq_true rfl) (gFit_of (Nat.le_of_ble_eq_true rfl) (Nat.le_of_ble_eq_true rfl) (by first | exact Nat.le_of_ble_eq_true rfl | omega | (simp only [gR]; omega)) (by first | exact Nat.le_of_ble_eq_true rfl | omega | (simp only [gR]; omega))) dX6_due_9 (fun F5 p6 => ?_) (fun _ q => q.elim)
    obtain ⟨S7, hW8, k9, s10, y11, y12⟩ := p6
    have hM13 : gSm S S7 [] [4, 5] := hM0.tr s10 _ _ rfl rfl
    have hK14 : gKp Y F F5 := hK0.tr k9
    exact g_xout hC hT ⟨S7, hW8, hK14, hM13, y11, y12⟩ (by first | exact Nat.le_of_ble_eq_true rfl | omega | (simp only [gR]; omega)) (by first | exact Nat.le_of_ble_eq_true rfl | omega | (simp only [gR]; omega))
theorem dX6_declaration_0 : decode cX6_declaration 0 = .ok (.aload_n 0, 1) := by decide +kernel
theorem dX6_declaration_1 : decode cX6_declaration 1 = .ok (.invokevirtual 97, 3) := by decide +kernel
theorem dX6_declaration_4 : decode cX6_declaration 4 = .ok (.istore_n 2, 1) := by decide +kernel
theorem dX6_declaration_5 : decode cX6_declaration 5 = .ok (.iload_n 2, 1) := by decide +kernel
theorem dX6_declaration_6 : decode cX6_declaration 6 = .ok (.bipush 53, 2) := by decide +kernel
theorem dX6_declaration_8 : decode cX6_declaration 8 = .ok (.if_icmp .eq 15, 3) := by decide +kernel
theorem dX6_declaration_11 : decode cX6_declaration 11 = .ok (.iload_n 2, 1) := by decide +kernel
theorem dX6_declaration_12 : decode cX6_declaration 12 = .ok (.bipush 54, 2) := by decide +kernel
theorem dX6_declaration_14 : decode cX6_declaration 14 = .ok (.if_icmp .eq 9, 3) := by decide +kernel
theorem dX6_declaration_17 : decode cX6_declaration 17 = .ok (.iload_n 2, 1) := by decide +kernel
theorem dX6_declaration_18 : decode cX6_declaration 18 = .ok (.bipush 55, 2) := by decide +kernel
theorem dX6_declaration_20 : decode cX6_declaration 20 = .ok (.if_icmp .ne 9, 3) := by decide +kernel
theorem dX6_declaration_23 : decode cX6_declaration 23 = .ok (.aload_n 0, 1) := by decide +kernel
theorem dX6_declaration_24 : decode cX6_declaration 24 = .ok (.iload_n 1, 1) := by decide +kernel
theorem dX6_declaration_25 : decode cX6_declaration 25 = .ok (.invokevirtual 126, 3) := by decide +kernel
theorem dX6_declaration_28 : decode cX6_declaration 28 = .ok (.ireturn, 1) := by decide +kernel
theorem dX6_declaration_29 : decode cX6_declaration 29 = .ok (.aload_n 0, 1) := by decide +kernel
theorem dX6_declaration_30 : decode cX6_declaration 30 = .ok (.getfield 60, 3) := by decide +kernel
theorem dX6_declaration_33 : decode cX6_declaration 33 = .ok (.bipush 94, 2) := by decide +kernel
theorem dX6_declaration_35 : decode cX6_declaration 35 = .ok (.aload_n 0, 1) := by decide +kernel
theorem dX6_declaration_36 : decode cX6_declaration 36 = .ok (.invokevirtual 112, 3) := by decide +kernel
theorem dX6_declaration_39 : decode cX6_declaration 39 = .ok (.iconst 0, 1) := by decide +kernel
theorem dX6_declaration_40 : decode cX6_declaration 40 = .ok (.invokevirtual 115, 3) := by decide +kernel
theorem dX6_declaration_43 : decode cX6_declaration 43 = .ok (.istore_n 3, 1) := by decide +kernel
theorem dX6_declaration_44 : decode cX6_declaration 44 = .ok (.aload_n 0, 1) := by decide +kernel
theorem dX6_declaration_45 : decode cX6_declaration 45 = .ok (.bipush 52, 2) := by decide +kernel
theorem dX6_declaration_47 : decode cX6_declaration 47 = .ok (.invokevirtual 109, 3) := by decide +kernel
theorem dX6_declaration_50 : decode cX6_declaration 50 = .ok (.iload_n 1, 1) := by decide +kernel
theorem dX6_declaration_51 : decode cX6_declaration 51 = .ok (.ifCond .ne 36, 3) := by decide +kernel
theorem dX6_declaration_54 : decode cX6_declaration 54 = .ok (.aload_n 0, 1) := by decide +kernel
theorem dX6_declaration_55 : decode cX6_declaration 55 = .ok (.invokevirtual 97, 3) := by decide +kernel
theorem dX6_declaration_58 : decode cX6_declaration 58 = .ok (.iconst 2, 1) := by decide +kernel
theorem dX6_declaration_59 : decode cX6_declaration 59 = .ok (.if_icmp .ne 28, 3) := by decide +kernel
theorem dX6_declaration_62 : decode cX6_declaration 62 = .ok (.aload_n 0, 1) := by decide +kernel
theorem dX6_declaration_63 : decode cX6_declaration 63 = .ok (.getfield 43, 3) := by decide +kernel
theorem dX6_declaration_66 : decode cX6_declaration 66 = .ok (.aload_n 0, 1) := by decide +kernel
theorem dX6_declaration_67 : decode cX6_declaration 67 = .ok (.getfield 27, 3) := by decide +kernel
theorem dX6_declaration_70 : decode cX6_declaration 70 = .ok (.iconst 1, 1) := by decide +kernel
theorem dX6_declaration_71 : decode cX6_declaration 71 = .ok (.iadd, 1) := by decide +kernel
theorem dX6_declaration_72 : decode cX6_declaration 72 = .ok (.invokevirtual 82, 3) := by decide +kernel
theorem dX6_declaration_75 : decode cX6_declaration 75 = .ok (.bipush 7, 2) := by decide +kernel
theorem dX6_declaration_77 : decode cX6_declaration 77 = .ok (.if_icmp .eq 10, 3) := by decide +kernel
theorem dX6_declaration_80 : decode cX6_declaration 80 = .ok (.aload_n 0, 1) := by decide +kernel
theorem dX6_declaration_81 : decode cX6_declaration 81 = .ok (.iload_n 3, 1) := by decide +kernel
theorem dX6_declaration_82 : decode cX6_declaration 82 = .ok (.invokevirtual 129, 3) := by decide +kernel
theorem dX6_declaration_85 : decode cX6_declaration 85 = .ok (.iload_n 3, 1) := by decide +kernel
theorem dX6_declaration_86 : decode cX6_declaration 86 = .ok (.ireturn, 1) := by decide +kernel
theorem dX6_declaration_87 : decode cX6_declaration 87 = .ok (.iconst 0, 1) := by decide +kernel
theorem dX6_declaration_88 : decode cX6_declaration 88 = .ok (.istore 4, 2) := by decide +kernel
theorem dX6_declaration_90 : decode cX6_declaration 90 = .ok (.iload 4, 2) := by decide +kernel
theorem dX6_declaration_92 : decode cX6_declaration 92 = .ok (.ldc 11, 2) := by decide +kernel
theorem dX6_declaration_94 : decode cX6_declaration 94 = .ok (.if_icmp .ge 38, 3) := by decide +kernel
theorem dX6_declaration_97 : decode cX6_declaration 97 = .ok (.aload_n 0, 1) := by decide +kernel
theorem dX6_declaration_98 : decode cX6_declaration 98 = .ok (.getfield 60, 3) := by decide +kernel
theorem dX6_declaration_101 : decode cX6_declaration 101 = .ok (.iload_n 3, 1) := by decide +kernel
theorem dX6_declaration_102 : decode cX6_declaration 102 = .ok (.aload_n 0, 1) := by decide +kernel
theorem dX6_declaration_103 : decode cX6_declaration 103 = .ok (.iload_n 1, 1) := by decide +kernel
theorem dX6_declaration_104 : decode cX6_declaration 104 = .ok (.invokevirtual 132, 3) := by decide +kernel
theorem dX6_declaration_107 : decode cX6_declaration 107 = .ok (.invokevirtual 123, 3) := by decide +kernel
theorem dX6_declaration_110 : decode cX6_declaration 110 = .ok (.aload_n 0, 1) := by decide +kernel
theorem dX6_declaration_111 : decode cX6_declaration 111 = .ok (.invokevirtual 97, 3) := by decide +kernel
theorem dX6_declaration_114 : decode cX6_declaration 114 = .ok (.bipush 57, 2) := by decide +kernel
theorem dX6_declaration_116 : decode cX6_declaration 116 = .ok (.if_icmp .eq 6, 3) := by decide +kernel
theorem dX6_declaration_119 : decode cX6_declaration 119 = .ok (.goto 13, 3) := by decide +kernel
theorem dX6_declaration_122 : decode cX6_declaration 122 = .ok (.aload_n 0, 1) := by decide +kernel
theorem dX6_declaration_123 : decode cX6_declaration 123 = .ok (.invokevirtual 103, 3) := by decide +kernel
theorem dX6_declaration_126 : decode cX6_declaration 126 = .ok (.iinc 4 1, 3) := by decide +kernel
theorem dX6_declaration_129 : decode cX6_declaration 129 = .ok (.goto (-39), 3) := by decide +kernel
theorem dX6_declaration_132 : decode cX6_declaration 132 = .ok (.iload_n 3, 1) := by decide +kernel
theorem dX6_declaration_133 : decode cX6_declaration 133 = .ok (.ireturn, 1) := by decide +kernel
set_option maxHeartbeats 4000000 in
set_option maxRecDepth 100000 in
theorem c_Pa_decl (l : Launch) (d : gD) (b : Nat) (Y : gYt) (F : gM) (S : gSt) (hW : gWT d Y F S) (hl : l.stackTraces = false) (hv4 : sV S 4 = 0) (hv10 : sV S 10 = 0) (hf14 : sF S 14 0 = 0) (hf16 : sF S 16 0 = 0) (hz7 : sZ S 7 = 2) (hn7 : sN S 7 = 16) (hz8 : sZ S 8 = 2) (hn8 : sN S 8 = 16) (hz9 : sZ S 9 = 2) (hn9 : sN S 9 = 16) (hz10 : sZ S 10 = 2) (hn10 : sN S 10 = 16) (hz11 : sZ S 11 = 2) (hn11 : sN S 11 = 16) (hz12 : sZ S 12 = 2) (hn12 : sN S 12 = 16) (hz13 : sZ S 13 = 2) (hn13 : sN S 13 = 16) : gXi l d b yX6_declaration cX6_declaration 5 .int 8 1 6 F [.ref (gO' Y 4), .int 1] (fun _ _ => False) "java/lang/IllegalStateException" (fun F' => ∃ S', gWT d Y F' S' ∧ gKp Y F F' ∧ gSm S S' [7, 8, 9, 10, 11, 12, 13] [4, 5] ∧ sV S' 4 = 2 ∧ sV S' 5 = 0) := by
  refine gX_of2 rfl (nL := 5) (Nat.le_of_ble_eq_true rfl) ?_
  intro X hX hT hC; subst hX
  show gG X d b _ F 0 0 0 [some (.ref (gO' Y 4)), some (.int 1), none, none, none] []
  have hM0 : gSm S S [7, 8, 9, 10, 11, 12, 13] [4, 5] := gSm.rf
  have hK0 : gKp Y F F := gKp.rf
  refine g_aload_n hC dX6_declaration_0 rfl ?_
  refine g_callVi (As := []) hC rfl (hW.o 4 (by decide)) (c_Pa_kind X.la d b Y F S hW ) cl_X6_97 rfl rfl (Nat.le_of_ble_eq_true rfl) (gFit_of (Nat.le_of_ble_eq_true rfl) (Nat.le_of_ble_eq_true rfl) (by first | exact Nat.le_of_ble_eq_true rfl | omega | (simp only [gR]; omega)) (by first | exact Nat.le_of_ble_eq_true rfl | omega | (simp only [gR]; omega))) dX6_declaration_1 (fun r3 F1 p2 => ?_)
  obtain ⟨er3, eF1⟩ := p2; have eF1 := eF1.symm; subst eF1
  have zr3 : r3 = 0 := by rw [er3, hv10]; exact gGet00 hf14
  subst zr3
  refine g_istore_n (lv' := [some (.ref (gO' Y 4)), some (.int 1), some (.int 0), none, none]) hC dX6_declaration_4 (Nat.le_of_ble_eq_true rfl) rfl rfl ?_
  refine g_iload_n hC dX6_declaration_5 rfl ?_
  refine g_bipush (v := 53) hC dX6_declaration_6 rfl ?_
  refine g_icmp_eq (tgt := 23) hC dX6_declaration_8 (by decide) (fun c4 => ?_) (fun c4 => ?_)
  · exact absurd c4 (by decide)
  · refine g_iload_n hC dX6_declaration_11 rfl ?_
    refine g_bipush (v := 54) hC dX6_declaration_12 rfl ?_
    refine g_icmp_eq (tgt := 23) hC dX6_declaration_14 (by decide) (fun c5 => ?_) (fun c5 => ?_)
    · exact absurd c5 (by decide)
    · refine g_iload_n hC dX6_declaration_17 rfl ?_
      refine g_bipush (v := 55) hC dX6_declaration_18 rfl ?_
      refine g_icmp_ne (tgt := 29) hC dX6_declaration_20 (by decide) (fun c6 => ?_) (fun c6 => ?_)
      · refine g_aload_n hC dX6_declaration_29 rfl ?_
        refine g_get hC fl_X6_60 (hW.o 4 (by decide)) rfl dX6_declaration_30 ?_
        refine g_bipush (v := 94) hC dX6_declaration_33 rfl ?_
        refine g_aload_n hC dX6_declaration_35 rfl ?_
        refine g_callVi (As := []) hC rfl (hW.o 4 (by decide)) (c_Pa_place X.la d b Y F S hW ) cl_X6_112 rfl rfl (Nat.le_of_ble_eq_true rfl) (gFit_of (Nat.le_of_ble_eq_true rfl) (Nat.le_of_ble_eq_true rfl) (by first | exact Nat.le_of_ble_eq_true rfl | omega | (simp only [gR]; omega)) (by first | exact Nat.le_of_ble_eq_true rfl | omega | (simp only [gR]; omega))) dX6_declaration_36 (fun r9 F7 p8 => ?_)
        obtain ⟨er9, eF7⟩ := p8; have eF7 := eF7.symm; subst eF7
        refine g_iconst (v := 0) hC dX6_declaration_39 rfl ?_
        refine g_callVi (As := [.int 94, .int r9, .int 0]) hC rfl (hW.o 2 (by decide)) (c_T_node X.la d b Y F S hW 94 r9 0 2 (by decide) hz7 hn7 hz8 hn8 hz9 hn9 hz10 hn10 hz11 hn11 hz12 hn12 hz13 hn13) cl_X6_115 rfl rfl (Nat.le_of_ble_eq_true rfl) (gFit_of (Nat.le_of_ble_eq_true rfl) (Nat.le_of_ble_eq_true rfl) (by first | exact Nat.le_of_ble_eq_true rfl | omega | (simp only [gR]; omega)) (by first | exact Nat.le_of_ble_eq_true rfl | omega | (simp only [gR]; omega))) dX6_declaration_40 (fun r12 F10 p11 => ?_)
        obtain ⟨S13, hW14, k15, s16, y17, y18, y19, y20, y21, y22, y23, y24, y25, y26, y27, y28, y29, y30⟩ := p11
        have hM31 : gSm S S13 [7, 8, 9, 10, 11, 12, 13] [4, 5] := hM0.tr s16 _ _ rfl rfl
        have hK32 : gKp Y F F10 := hK0.tr k15
        have z33 : sV S13 4 = 0 := (s16.v 4 (by decide)).trans hv4
        have z34 : sV S13 10 = 0 := (s16.v 10 (by decide)).trans hv10
        have f35 : sF S13 14 0 = 0 := by rw [s16.f 14 (by decide)]; exact hf14
        have f36 : sF S13 16 0 = 0 := by rw [s16.f 16 (by decide)]; exact hf16
        clear hz7 hn7 hz8 hn8 hz9 hn9 hz10 hn10 hz11 hn11 hz12 hn12 hz13 hn13 hv4 hv10 hM0 hK0 s16 k15 hW
        refine g_istore_n (lv' := [some (.ref (gO' Y 4)), some (.int 1), some (.int 0), some (.int r12), none]) hC dX6_declaration_43 (Nat.le_of_ble_eq_true rfl) rfl rfl ?_
        refine g_aload_n hC dX6_declaration_44 rfl ?_
        refine g_bipush (v := 52) hC dX6_declaration_45 rfl ?_
        refine g_xcallVv (As := [.int 52]) hC rfl (hW14.o 4 (by decide)) (c_Pa_due X.la d b Y F10 S13 hW14 hl z33 z34 f35 f36) cl_X6_109 rfl rfl (Nat.le_of_ble_eq_true rfl) (gFit_of (Nat.le_of_ble_eq_true rfl) (Nat.le_of_ble_eq_true rfl) (by first | exact Nat.le_of_ble_eq_true rfl | omega | (simp only [gR]; omega)) (by first | exact Nat.le_of_ble_eq_true rfl | omega | (simp only [gR]; omega))) dX6_declaration_47 (fun F37 p38 => ?_) (fun _ q => q.elim)
        obtain ⟨S39, hW40, k41, s42, y43, y44⟩ := p38
        have hM45 : gSm S S39 [7, 8, 9, 10, 11, 12, 13] [4, 5] := hM31.tr s42 _ _ rfl rfl
        have hK46 : gKp Y F F37 := hK32.tr k41
        have z47 : sZ S39 7 = 3 := (s42.z 7 (by decide)).trans y17
        have z48 : sN S39 7 = 16 := (s42.n 7 (by decide)).trans y24
        have z49 : sZ S39 8 = 3 := (s42.z 8 (by decide)).trans y18
        have z50 : sN S39 8 = 16 := (s42.n 8 (by decide)).trans y25
        have z51 : sZ S39 9 = 3 := (s42.z 9 (by decide)).trans y19
        have z52 : sN S39 9 = 16 := (s42.n 9 (by decide)).trans y26
        have z53 : sZ S39 10 = 3 := (s42.z 10 (by decide)).trans y20
        have z54 : sN S39 10 = 16 := (s42.n 10 (by decide)).trans y27
        have z55 : sZ S39 11 = 3 := (s42.z 11 (by decide)).trans y21
        have z56 : sN S39 11 = 16 := (s42.n 11 (by decide)).trans y28
        have z57 : sZ S39 12 = 3 := (s42.z 12 (by decide)).trans y22
        have z58 : sN S39 12 = 16 := (s42.n 12 (by decide)).trans y29
        have z59 : sZ S39 13 = 3 := (s42.z 13 (by decide)).trans y23
        have z60 : sN S39 13 = 16 := (s42.n 13 (by decide)).trans y30
        have z61 : sV S39 10 = 0 := (s42.v 10 (by decide)).trans z34
        exact g_xout hC hT ⟨S39, hW40, hK46, hM45, y43, y44⟩ (by first | exact Nat.le_of_ble_eq_true rfl | omega | (simp only [gR]; omega)) (by first | exact Nat.le_of_ble_eq_true rfl | omega | (simp only [gR]; omega))
      · exact absurd c6 (by decide)
theorem dX6_text_0 : decode cX6_text 0 = .ok (.aload_n 0, 1) := by decide +kernel
theorem dX6_text_1 : decode cX6_text 1 = .ok (.getfield 60, 3) := by decide +kernel
theorem dX6_text_4 : decode cX6_text 4 = .ok (.bipush 92, 2) := by decide +kernel
theorem dX6_text_6 : decode cX6_text 6 = .ok (.aload_n 0, 1) := by decide +kernel
theorem dX6_text_7 : decode cX6_text 7 = .ok (.invokevirtual 112, 3) := by decide +kernel
theorem dX6_text_10 : decode cX6_text 10 = .ok (.iconst 0, 1) := by decide +kernel
theorem dX6_text_11 : decode cX6_text 11 = .ok (.invokevirtual 115, 3) := by decide +kernel
theorem dX6_text_14 : decode cX6_text 14 = .ok (.istore_n 1, 1) := by decide +kernel
theorem dX6_text_15 : decode cX6_text 15 = .ok (.iconst 0, 1) := by decide +kernel
theorem dX6_text_16 : decode cX6_text 16 = .ok (.istore_n 2, 1) := by decide +kernel
theorem dX6_text_17 : decode cX6_text 17 = .ok (.iload_n 2, 1) := by decide +kernel
theorem dX6_text_18 : decode cX6_text 18 = .ok (.ldc 11, 2) := by decide +kernel
theorem dX6_text_20 : decode cX6_text 20 = .ok (.if_icmp .ge 48, 3) := by decide +kernel
theorem dX6_text_23 : decode cX6_text 23 = .ok (.aload_n 0, 1) := by decide +kernel
theorem dX6_text_24 : decode cX6_text 24 = .ok (.getfield 60, 3) := by decide +kernel
theorem dX6_text_27 : decode cX6_text 27 = .ok (.iload_n 1, 1) := by decide +kernel
theorem dX6_text_28 : decode cX6_text 28 = .ok (.aload_n 0, 1) := by decide +kernel
theorem dX6_text_29 : decode cX6_text 29 = .ok (.iconst 1, 1) := by decide +kernel
theorem dX6_text_30 : decode cX6_text 30 = .ok (.invokevirtual 119, 3) := by decide +kernel
theorem dX6_text_33 : decode cX6_text 33 = .ok (.invokevirtual 123, 3) := by decide +kernel
theorem dX6_text_36 : decode cX6_text 36 = .ok (.aload_n 0, 1) := by decide +kernel
theorem dX6_text_37 : decode cX6_text 37 = .ok (.invokevirtual 97, 3) := by decide +kernel
theorem dX6_text_40 : decode cX6_text 40 = .ok (.ifCond .ne 6, 3) := by decide +kernel
theorem dX6_text_43 : decode cX6_text 43 = .ok (.goto 25, 3) := by decide +kernel
theorem dX6_text_46 : decode cX6_text 46 = .ok (.aload_n 0, 1) := by decide +kernel
theorem dX6_text_47 : decode cX6_text 47 = .ok (.bipush 10, 2) := by decide +kernel
theorem dX6_text_49 : decode cX6_text 49 = .ok (.invokevirtual 109, 3) := by decide +kernel
theorem dX6_text_52 : decode cX6_text 52 = .ok (.aload_n 0, 1) := by decide +kernel
theorem dX6_text_53 : decode cX6_text 53 = .ok (.invokevirtual 97, 3) := by decide +kernel
theorem dX6_text_56 : decode cX6_text 56 = .ok (.ifCond .ne 6, 3) := by decide +kernel
theorem dX6_text_59 : decode cX6_text 59 = .ok (.goto 9, 3) := by decide +kernel
theorem dX6_text_62 : decode cX6_text 62 = .ok (.iinc 2 1, 3) := by decide +kernel
theorem dX6_text_65 : decode cX6_text 65 = .ok (.goto (-48), 3) := by decide +kernel
theorem dX6_text_68 : decode cX6_text 68 = .ok (.iload_n 1, 1) := by decide +kernel
theorem dX6_text_69 : decode cX6_text 69 = .ok (.ireturn, 1) := by decide +kernel
set_option maxHeartbeats 4000000 in
set_option maxRecDepth 100000 in
theorem c_Pa_text (l : Launch) (d : gD) (b : Nat) (Y : gYt) (F : gM) (S : gSt) (hW : gWT d Y F S) (hl : l.stackTraces = false) (hv4 : sV S 4 = 0) (hv10 : sV S 10 = 0) (hf14 : sF S 14 0 = 0) (hf16 : sF S 16 0 = 0) (hz7 : sZ S 7 = 1) (hn7 : sN S 7 = 16) (hz8 : sZ S 8 = 1) (hn8 : sN S 8 = 16) (hz9 : sZ S 9 = 1) (hn9 : sN S 9 = 16) (hz10 : sZ S 10 = 1) (hn10 : sN S 10 = 16) (hz11 : sZ S 11 = 1) (hn11 : sN S 11 = 16) (hz12 : sZ S 12 = 1) (hn12 : sN S 12 = 16) (hz13 : sZ S 13 = 1) (hn13 : sN S 13 = 16) : gXi l d b yX6_text cX6_text 3 .int 9 1 6 F [.ref (gO' Y 4)] (fun _ _ => False) "java/lang/IllegalStateException" (fun F' => ∃ S', gWT d Y F' S' ∧ gKp Y F F' ∧ gSm S S' [7, 8, 9, 10, 11, 12, 13] [4, 5] ∧ sV S' 4 = 2 ∧ sV S' 5 = 0) := by
  refine gX_of2 rfl (nL := 3) (Nat.le_of_ble_eq_true rfl) ?_
  intro X hX hT hC; subst hX
  show gG X d b _ F 0 0 0 [some (.ref (gO' Y 4)), none, none] []
  have hM0 : gSm S S [7, 8, 9, 10, 11, 12, 13] [4, 5] := gSm.rf
  have hK0 : gKp Y F F := gKp.rf
  refine g_aload_n hC dX6_text_0 rfl ?_
  refine g_get hC fl_X6_60 (hW.o 4 (by decide)) rfl dX6_text_1 ?_
  refine g_bipush (v := 92) hC dX6_text_4 rfl ?_
  refine g_aload_n hC dX6_text_6 rfl ?_
  refine g_callVi (As := []) hC rfl (hW.o 4 (by decide)) (c_Pa_place X.la d b Y F S hW ) cl_X6_112 rfl rfl (Nat.le_of_ble_eq_true rfl) (gFit_of (Nat.le_of_ble_eq_true rfl) (Nat.le_of_ble_eq_true rfl) (by first | exact Nat.le_of_ble_eq_true rfl | omega | (simp only [gR]; omega)) (by first | exact Nat.le_of_ble_eq_true rfl | omega | (simp only [gR]; omega))) dX6_text_7 (fun r3 F1 p2 => ?_)
  obtain ⟨er3, eF1⟩ := p2; have eF1 := eF1.symm; subst eF1
  refine g_iconst (v := 0) hC dX6_text_10 rfl ?_
  refine g_callVi (As := [.int 92, .int r3, .int 0]) hC rfl (hW.o 2 (by decide)) (c_T_node X.la d b Y F S hW 92 r3 0 1 (by decide) hz7 hn7 hz8 hn8 hz9 hn9 hz10 hn10 hz11 hn11 hz12 hn12 hz13 hn13) cl_X6_115 rfl rfl (Nat.le_of_ble_eq_true rfl) (gFit_of (Nat.le_of_ble_eq_true rfl) (Nat.le_of_ble_eq_true rfl) (by first | exact Nat.le_of_ble_eq_true rfl | omega | (simp only [gR]; omega)) (by first | exact Nat.le_of_ble_eq_true rfl | omega | (simp only [gR]; omega))) dX6_text_11 (fun r6 F4 p5 => ?_)
  obtain ⟨S7, hW8, k9, s10, y11, y12, y13, y14, y15, y16, y17, y18, y19, y20, y21, y22, y23, y24⟩ := p5
  have hM25 : gSm S S7 [7, 8, 9, 10, 11, 12, 13] [4, 5] := hM0.tr s10 _ _ rfl rfl
  have hK26 : gKp Y F F4 := hK0.tr k9
  have z27 : sV S7 4 = 0 := (s10.v 4 (by decide)).trans hv4
  have z28 : sV S7 10 = 0 := (s10.v 10 (by decide)).trans hv10
  have f29 : sF S7 14 0 = 0 := by rw [s10.f 14 (by decide)]; exact hf14
  have f30 : sF S7 16 0 = 0 := by rw [s10.f 16 (by decide)]; exact hf16
  clear hz7 hn7 hz8 hn8 hz9 hn9 hz10 hn10 hz11 hn11 hz12 hn12 hz13 hn13 hv4 hv10 hM0 hK0 s10 k9 hW
  refine g_istore_n (lv' := [some (.ref (gO' Y 4)), some (.int r6), none]) hC dX6_text_14 (Nat.le_of_ble_eq_true rfl) rfl rfl ?_
  refine g_iconst (v := 0) hC dX6_text_15 rfl ?_
  refine g_istore_n (lv' := [some (.ref (gO' Y 4)), some (.int r6), some (.int 0)]) hC dX6_text_16 (Nat.le_of_ble_eq_true rfl) rfl rfl ?_
  refine g_iload_n hC dX6_text_17 rfl ?_
  refine g_ldc hC dX6_text_18 kw_514 ?_
  refine g_icmp_ge (tgt := 68) hC dX6_text_20 (by decide) (fun c31 => ?_) (fun c31 => ?_)
  · exact absurd c31 (by decide)
  · refine g_aload_n hC dX6_text_23 rfl ?_
    refine g_get hC fl_X6_60 (hW8.o 4 (by decide)) rfl dX6_text_24 ?_
    refine g_iload_n hC dX6_text_27 rfl ?_
    refine g_aload_n hC dX6_text_28 rfl ?_
    refine g_iconst (v := 1) hC dX6_text_29 rfl ?_
    refine g_xcallVi (As := [.int 1]) hC rfl (hW8.o 4 (by decide)) (c_Pa_decl X.la d b Y F4 S7 hW8 hl z27 z28 f29 f30 y11 y18 y12 y19 y13 y20 y14 y21 y15 y22 y16 y23 y17 y24) cl_X6_119 rfl rfl (Nat.le_of_ble_eq_true rfl) (gFit_of (Nat.le_of_ble_eq_true rfl) (Nat.le_of_ble_eq_true rfl) (by first | exact Nat.le_of_ble_eq_true rfl | omega | (simp only [gR]; omega)) (by first | exact Nat.le_of_ble_eq_true rfl | omega | (simp only [gR]; omega))) dX6_text_30 (fun F32 p33 => ?_) (fun _ _ q => q.elim)
    obtain ⟨S34, hW35, k36, s37, y38, y39⟩ := p33
    have hM40 : gSm S S34 [7, 8, 9, 10, 11, 12, 13] [4, 5] := hM25.tr s37 _ _ rfl rfl
    have hK41 : gKp Y F F32 := hK26.tr k36
    have z42 : sV S34 10 = 0 := (s37.v 10 (by decide)).trans z28
    exact g_xout hC hT ⟨S34, hW35, hK41, hM40, y38, y39⟩ (by first | exact Nat.le_of_ble_eq_true rfl | omega | (simp only [gR]; omega)) (by first | exact Nat.le_of_ble_eq_true rfl | omega | (simp only [gR]; omega))
end
section
theorem kw_954 : Cond.code yX10_clear cX10_clear 1 none ∈ gWs := gWm 954 (by decide +kernel) rfl
theorem kw_951 : Cond.methodLink RX6 68 yX10_clear ∈ gWs := gWm 951 (by decide +kernel) rfl
theorem kw_952 : Cond.instanceMethod yX10_clear ∈ gWs := gWm 952 (by decide +kernel) rfl
theorem kw_953 : Cond.selects RX10 yX10_clear yX10_clear ∈ gWs := gWm 953 (by decide +kernel) rfl
theorem cl_X6_68 : gCV RX6 68 yX10_clear cX10_clear 1 none 0 := ⟨g_mk [.methodLink RX6 68 yX10_clear, .instanceMethod yX10_clear, .selects yX10_clear.cls yX10_clear yX10_clear, .initialized yX10_clear.cls] (gWs_all kw_954) (List.forall_mem_cons.mpr ⟨kw_951, List.forall_mem_cons.mpr ⟨kw_952, List.forall_mem_cons.mpr ⟨kw_953, List.forall_mem_cons.mpr ⟨kw_241, fun _ h => nomatch h⟩⟩⟩⟩), rfl, by decide +kernel, by decide +kernel, by decide +kernel⟩
theorem kw_538 : Cond.fieldLink RX6 15 "WordTongue$Parser" "tags" "LWordTongue$Ints;" ∈ gWs := gWm 538 (by decide +kernel) rfl
theorem fl_X6_15 : gFL RX6 15 6 6 (.object "WordTongue$Ints") true := ⟨RX6, TX6, 12, tyX6, rfl, by decide, inW_RX6, kw_538, tyX6_ok, nmX6, rfl, by decide +kernel, fun _ => rfl⟩
theorem kw_962 : Cond.methodLink RX6 73 yX4_cut ∈ gWs := gWm 962 (by decide +kernel) rfl
theorem cl_X6_73 : gCV RX6 73 yX4_cut cX4_cut 2 none 1 := ⟨g_mk [.methodLink RX6 73 yX4_cut, .instanceMethod yX4_cut, .selects yX4_cut.cls yX4_cut yX4_cut, .initialized yX4_cut.cls] (gWs_all kw_468) (List.forall_mem_cons.mpr ⟨kw_962, List.forall_mem_cons.mpr ⟨kw_466, List.forall_mem_cons.mpr ⟨kw_467, List.forall_mem_cons.mpr ⟨kw_239, fun _ h => nomatch h⟩⟩⟩⟩), rfl, by decide +kernel, by decide +kernel, by decide +kernel⟩
theorem kw_539 : Cond.fieldLink RX6 21 "WordTongue$Parser" "signs" "LWordTongue$Ints;" ∈ gWs := gWm 539 (by decide +kernel) rfl
theorem fl_X6_21 : gFL RX6 21 6 7 (.object "WordTongue$Ints") true := ⟨RX6, TX6, 12, tyX6, rfl, by decide, inW_RX6, kw_539, tyX6_ok, nmX6, rfl, by decide +kernel, fun _ => rfl⟩
theorem kw_540 : Cond.fieldLink RX6 24 "WordTongue$Parser" "globals" "LWordTongue$Ints;" ∈ gWs := gWm 540 (by decide +kernel) rfl
theorem fl_X6_24 : gFL RX6 24 6 8 (.object "WordTongue$Ints") true := ⟨RX6, TX6, 12, tyX6, rfl, by decide, inW_RX6, kw_540, tyX6_ok, nmX6, rfl, by decide +kernel, fun _ => rfl⟩
theorem kw_542 : Cond.fieldLink RX6 31 "WordTongue$Parser" "depth" "I" ∈ gWs := gWm 542 (by decide +kernel) rfl
theorem fl_X6_31 : gFL RX6 31 6 10 .int false := ⟨RX6, TX6, 12, tyX6, rfl, by decide, inW_RX6, kw_542, tyX6_ok, nmX6, rfl, by decide +kernel, fun h => by cases h⟩
theorem kw_966 : Cond.code yX6_text cX6_text 3 (some .int) ∈ gWs := gWm 966 (by decide +kernel) rfl
theorem kw_963 : Cond.methodLink RX6 76 yX6_text ∈ gWs := gWm 963 (by decide +kernel) rfl
theorem kw_965 : Cond.instanceMethod yX6_text ∈ gWs := gWm 965 (by decide +kernel) rfl
theorem kw_15 : Cond.selects RX6 yX6_text yX6_text ∈ gWs := gWm 15 (by decide +kernel) rfl
theorem cl_X6_76 : gCV RX6 76 yX6_text cX6_text 3 (some .int) 0 := ⟨g_mk [.methodLink RX6 76 yX6_text, .instanceMethod yX6_text, .selects yX6_text.cls yX6_text yX6_text, .initialized yX6_text.cls] (gWs_all kw_966) (List.forall_mem_cons.mpr ⟨kw_963, List.forall_mem_cons.mpr ⟨kw_965, List.forall_mem_cons.mpr ⟨kw_15, List.forall_mem_cons.mpr ⟨kw_250, fun _ h => nomatch h⟩⟩⟩⟩), rfl, by decide +kernel, by decide +kernel, by decide +kernel⟩
theorem kw_800 : Cond.fieldLink RX11 21 "WordTongue" "program" "LWordTongue$Program;" ∈ gWs := gWm 800 (by decide +kernel) rfl
theorem kw_809 : Cond.laysFinal RX11 "WordTongue" "tape" "LWordTongue$Ints;" ∈ gWs := gWm 809 (by decide +kernel) rfl
theorem kw_811 : Cond.laysFinal RX11 "WordTongue" "program" "LWordTongue$Program;" ∈ gWs := gWm 811 (by decide +kernel) rfl
theorem kw_813 : Cond.laysFinal RX11 "WordTongue" "tree" "LWordTongue$Tree;" ∈ gWs := gWm 813 (by decide +kernel) rfl
theorem kw_815 : Cond.laysFinal RX11 "WordTongue" "scanner" "LWordTongue$Scanner;" ∈ gWs := gWm 815 (by decide +kernel) rfl
theorem kw_817 : Cond.laysFinal RX11 "WordTongue" "parser" "LWordTongue$Parser;" ∈ gWs := gWm 817 (by decide +kernel) rfl
theorem kw_819 : Cond.laysFinal RX11 "WordTongue" "coder" "LWordTongue$Coder;" ∈ gWs := gWm 819 (by decide +kernel) rfl
theorem kw_821 : Cond.laysFinal RX11 "WordTongue" "channels" "LWordTongue$Channels;" ∈ gWs := gWm 821 (by decide +kernel) rfl
theorem kw_823 : Cond.laysFinal RX11 "WordTongue" "machine" "LWordTongue$Machine;" ∈ gWs := gWm 823 (by decide +kernel) rfl
theorem kw_825 : Cond.lays RX11 "WordTongue" "storeWords" "I" ∈ gWs := gWm 825 (by decide +kernel) rfl
theorem kw_827 : Cond.lays RX11 "WordTongue" "goodWords" "I" ∈ gWs := gWm 827 (by decide +kernel) rfl
set_option maxRecDepth 20000 in
theorem inW_RX11 : ∀ w ∈ u_ws RX11 TX11 10, w ∈ gWs := List.forall_mem_cons.mpr ⟨kw_809, List.forall_mem_cons.mpr ⟨kw_811, List.forall_mem_cons.mpr ⟨kw_813, List.forall_mem_cons.mpr ⟨kw_815, List.forall_mem_cons.mpr ⟨kw_817, List.forall_mem_cons.mpr ⟨kw_819, List.forall_mem_cons.mpr ⟨kw_821, List.forall_mem_cons.mpr ⟨kw_823, List.forall_mem_cons.mpr ⟨kw_825, List.forall_mem_cons.mpr ⟨kw_827, fun _ h => nomatch h⟩⟩⟩⟩⟩⟩⟩⟩⟩⟩
theorem fl_X11_21 : gFL RX11 21 11 1 (.object "WordTongue$Program") true := ⟨RX11, TX11, 10, tyX11, rfl, by decide, inW_RX11, kw_800, tyX11_ok, nmX11, rfl, by decide +kernel, fun _ => rfl⟩
theorem kw_807 : Cond.fieldLink RX11 75 "WordTongue" "storeWords" "I" ∈ gWs := gWm 807 (by decide +kernel) rfl
theorem fl_X11_75 : gFL RX11 75 11 8 .int false := ⟨RX11, TX11, 10, tyX11, rfl, by decide, inW_RX11, kw_807, tyX11_ok, nmX11, rfl, by decide +kernel, fun h => by cases h⟩
theorem kw_852 : Cond.code yX7_clear cX7_clear 3 none ∈ gWs := gWm 852 (by decide +kernel) rfl
theorem kw_849 : Cond.methodLink RX11 95 yX7_clear ∈ gWs := gWm 849 (by decide +kernel) rfl
theorem kw_850 : Cond.instanceMethod yX7_clear ∈ gWs := gWm 850 (by decide +kernel) rfl
theorem kw_851 : Cond.selects RX7 yX7_clear yX7_clear ∈ gWs := gWm 851 (by decide +kernel) rfl
theorem cl_X11_95 : gCV RX11 95 yX7_clear cX7_clear 3 none 1 := ⟨g_mk [.methodLink RX11 95 yX7_clear, .instanceMethod yX7_clear, .selects yX7_clear.cls yX7_clear yX7_clear, .initialized yX7_clear.cls] (gWs_all kw_852) (List.forall_mem_cons.mpr ⟨kw_849, List.forall_mem_cons.mpr ⟨kw_850, List.forall_mem_cons.mpr ⟨kw_851, List.forall_mem_cons.mpr ⟨kw_240, fun _ h => nomatch h⟩⟩⟩⟩), rfl, by decide +kernel, by decide +kernel, by decide +kernel⟩
theorem kw_802 : Cond.fieldLink RX11 37 "WordTongue" "scanner" "LWordTongue$Scanner;" ∈ gWs := gWm 802 (by decide +kernel) rfl
theorem fl_X11_37 : gFL RX11 37 11 3 (.object "WordTongue$Scanner") true := ⟨RX11, TX11, 10, tyX11, rfl, by decide, inW_RX11, kw_802, tyX11_ok, nmX11, rfl, by decide +kernel, fun _ => rfl⟩
theorem kw_863 : Cond.code yX8_scan cX8_scan 2 none ∈ gWs := gWm 863 (by decide +kernel) rfl
theorem kw_860 : Cond.methodLink RX11 98 yX8_scan ∈ gWs := gWm 860 (by decide +kernel) rfl
theorem kw_861 : Cond.instanceMethod yX8_scan ∈ gWs := gWm 861 (by decide +kernel) rfl
theorem kw_862 : Cond.selects RX8 yX8_scan yX8_scan ∈ gWs := gWm 862 (by decide +kernel) rfl
theorem cl_X11_98 : gCV RX11 98 yX8_scan cX8_scan 2 none 0 := ⟨g_mk [.methodLink RX11 98 yX8_scan, .instanceMethod yX8_scan, .selects yX8_scan.cls yX8_scan yX8_scan, .initialized yX8_scan.cls] (gWs_all kw_863) (List.forall_mem_cons.mpr ⟨kw_860, List.forall_mem_cons.mpr ⟨kw_861, List.forall_mem_cons.mpr ⟨kw_862, List.forall_mem_cons.mpr ⟨kw_242, fun _ h => nomatch h⟩⟩⟩⟩), rfl, by decide +kernel, by decide +kernel, by decide +kernel⟩
theorem kw_803 : Cond.fieldLink RX11 46 "WordTongue" "parser" "LWordTongue$Parser;" ∈ gWs := gWm 803 (by decide +kernel) rfl
theorem fl_X11_46 : gFL RX11 46 11 4 (.object "WordTongue$Parser") true := ⟨RX11, TX11, 10, tyX11, rfl, by decide, inW_RX11, kw_803, tyX11_ok, nmX11, rfl, by decide +kernel, fun _ => rfl⟩
theorem kw_949 : Cond.codeWith yX6_reads cX6_reads 2 (some .boolean) [(41, 50, 51, 80)] ∈ gWs := gWm 949 (by decide +kernel) rfl
theorem kw_946 : Cond.methodLink RX11 101 yX6_reads ∈ gWs := gWm 946 (by decide +kernel) rfl
theorem kw_947 : Cond.instanceMethod yX6_reads ∈ gWs := gWm 947 (by decide +kernel) rfl
theorem kw_948 : Cond.selects RX6 yX6_reads yX6_reads ∈ gWs := gWm 948 (by decide +kernel) rfl
theorem kw_1582 : Cond.code yX7_judge cX7_judge 3 none ∈ gWs := gWm 1582 (by decide +kernel) rfl
theorem kw_1579 : Cond.methodLink RX11 111 yX7_judge ∈ gWs := gWm 1579 (by decide +kernel) rfl
theorem kw_1580 : Cond.instanceMethod yX7_judge ∈ gWs := gWm 1580 (by decide +kernel) rfl
theorem kw_1581 : Cond.selects RX7 yX7_judge yX7_judge ∈ gWs := gWm 1581 (by decide +kernel) rfl
theorem cl_X11_111 : gCV RX11 111 yX7_judge cX7_judge 3 none 0 := ⟨g_mk [.methodLink RX11 111 yX7_judge, .instanceMethod yX7_judge, .selects yX7_judge.cls yX7_judge yX7_judge, .initialized yX7_judge.cls] (gWs_all kw_1582) (List.forall_mem_cons.mpr ⟨kw_1579, List.forall_mem_cons.mpr ⟨kw_1580, List.forall_mem_cons.mpr ⟨kw_1581, List.forall_mem_cons.mpr ⟨kw_240, fun _ h => nomatch h⟩⟩⟩⟩), rfl, by decide +kernel, by decide +kernel, by decide +kernel⟩
theorem kw_799 : Cond.fieldLink RX11 14 "WordTongue" "tape" "LWordTongue$Ints;" ∈ gWs := gWm 799 (by decide +kernel) rfl
theorem fl_X11_14 : gFL RX11 14 11 0 (.object "WordTongue$Ints") true := ⟨RX11, TX11, 10, tyX11, rfl, by decide, inW_RX11, kw_799, tyX11_ok, nmX11, rfl, by decide +kernel, fun _ => rfl⟩
theorem kw_844 : Cond.methodLink RX11 92 yX4_cut ∈ gWs := gWm 844 (by decide +kernel) rfl
theorem cl_X11_92 : gCV RX11 92 yX4_cut cX4_cut 2 none 1 := ⟨g_mk [.methodLink RX11 92 yX4_cut, .instanceMethod yX4_cut, .selects yX4_cut.cls yX4_cut yX4_cut, .initialized yX4_cut.cls] (gWs_all kw_468) (List.forall_mem_cons.mpr ⟨kw_844, List.forall_mem_cons.mpr ⟨kw_466, List.forall_mem_cons.mpr ⟨kw_467, List.forall_mem_cons.mpr ⟨kw_239, fun _ h => nomatch h⟩⟩⟩⟩), rfl, by decide +kernel, by decide +kernel, by decide +kernel⟩
theorem kw_1588 : Cond.code yX7_faultKind cX7_faultKind 1 (some .int) ∈ gWs := gWm 1588 (by decide +kernel) rfl
theorem kw_1585 : Cond.methodLink RX11 114 yX7_faultKind ∈ gWs := gWm 1585 (by decide +kernel) rfl
theorem kw_1586 : Cond.instanceMethod yX7_faultKind ∈ gWs := gWm 1586 (by decide +kernel) rfl
theorem kw_1587 : Cond.selects RX7 yX7_faultKind yX7_faultKind ∈ gWs := gWm 1587 (by decide +kernel) rfl
theorem cl_X11_114 : gCV RX11 114 yX7_faultKind cX7_faultKind 1 (some .int) 0 := ⟨g_mk [.methodLink RX11 114 yX7_faultKind, .instanceMethod yX7_faultKind, .selects yX7_faultKind.cls yX7_faultKind yX7_faultKind, .initialized yX7_faultKind.cls] (gWs_all kw_1588) (List.forall_mem_cons.mpr ⟨kw_1585, List.forall_mem_cons.mpr ⟨kw_1586, List.forall_mem_cons.mpr ⟨kw_1587, List.forall_mem_cons.mpr ⟨kw_240, fun _ h => nomatch h⟩⟩⟩⟩), rfl, by decide +kernel, by decide +kernel, by decide +kernel⟩
theorem kw_1592 : Cond.code yX7_faultPlace cX7_faultPlace 1 (some .int) ∈ gWs := gWm 1592 (by decide +kernel) rfl
theorem kw_1589 : Cond.methodLink RX11 117 yX7_faultPlace ∈ gWs := gWm 1589 (by decide +kernel) rfl
theorem kw_1590 : Cond.instanceMethod yX7_faultPlace ∈ gWs := gWm 1590 (by decide +kernel) rfl
theorem kw_1591 : Cond.selects RX7 yX7_faultPlace yX7_faultPlace ∈ gWs := gWm 1591 (by decide +kernel) rfl
theorem cl_X11_117 : gCV RX11 117 yX7_faultPlace cX7_faultPlace 1 (some .int) 0 := ⟨g_mk [.methodLink RX11 117 yX7_faultPlace, .instanceMethod yX7_faultPlace, .selects yX7_faultPlace.cls yX7_faultPlace yX7_faultPlace, .initialized yX7_faultPlace.cls] (gWs_all kw_1592) (List.forall_mem_cons.mpr ⟨kw_1589, List.forall_mem_cons.mpr ⟨kw_1590, List.forall_mem_cons.mpr ⟨kw_1591, List.forall_mem_cons.mpr ⟨kw_240, fun _ h => nomatch h⟩⟩⟩⟩), rfl, by decide +kernel, by decide +kernel, by decide +kernel⟩
theorem gWs_allW {y : MethodName} {cc : ByteArray} {mL : Nat} {rt : Option FieldType} {hh : List (Nat × Nat × Nat × Nat)} (h : Cond.codeWith y cc mL rt hh ∈ gWs) : GoodIn gWs (.codeWith y cc mL rt hh :: gWs) := fun w hw => by
  have hw' : w ∈ gWs := (List.mem_cons.mp hw).elim (fun e => by rw [e]; exact h) id
  exact ⟨hw', good_of_word (gWs_good w hw')⟩
theorem cl_X11_101 : gCVW RX11 101 yX6_reads cX6_reads 2 (some .boolean) [(41, 50, 51, 80)] 0 := ⟨g_mk [.methodLink RX11 101 yX6_reads, .instanceMethod yX6_reads, .selects yX6_reads.cls yX6_reads yX6_reads, .initialized yX6_reads.cls] (gWs_allW kw_949) (List.forall_mem_cons.mpr ⟨kw_946, List.forall_mem_cons.mpr ⟨kw_947, List.forall_mem_cons.mpr ⟨kw_948, List.forall_mem_cons.mpr ⟨kw_250, fun _ h => nomatch h⟩⟩⟩⟩), rfl, by decide +kernel, by decide +kernel, by decide +kernel⟩
theorem dX6_reads_0 : decode cX6_reads 0 = .ok (.aload_n 0, 1) := by decide +kernel
theorem dX6_reads_1 : decode cX6_reads 1 = .ok (.getfield 60, 3) := by decide +kernel
theorem dX6_reads_4 : decode cX6_reads 4 = .ok (.invokevirtual 68, 3) := by decide +kernel
theorem dX6_reads_7 : decode cX6_reads 7 = .ok (.aload_n 0, 1) := by decide +kernel
theorem dX6_reads_8 : decode cX6_reads 8 = .ok (.getfield 15, 3) := by decide +kernel
theorem dX6_reads_11 : decode cX6_reads 11 = .ok (.iconst 0, 1) := by decide +kernel
theorem dX6_reads_12 : decode cX6_reads 12 = .ok (.invokevirtual 73, 3) := by decide +kernel
theorem dX6_reads_15 : decode cX6_reads 15 = .ok (.aload_n 0, 1) := by decide +kernel
theorem dX6_reads_16 : decode cX6_reads 16 = .ok (.getfield 21, 3) := by decide +kernel
theorem dX6_reads_19 : decode cX6_reads 19 = .ok (.iconst 0, 1) := by decide +kernel
theorem dX6_reads_20 : decode cX6_reads 20 = .ok (.invokevirtual 73, 3) := by decide +kernel
theorem dX6_reads_23 : decode cX6_reads 23 = .ok (.aload_n 0, 1) := by decide +kernel
theorem dX6_reads_24 : decode cX6_reads 24 = .ok (.getfield 24, 3) := by decide +kernel
theorem dX6_reads_27 : decode cX6_reads 27 = .ok (.iconst 0, 1) := by decide +kernel
theorem dX6_reads_28 : decode cX6_reads 28 = .ok (.invokevirtual 73, 3) := by decide +kernel
theorem dX6_reads_31 : decode cX6_reads 31 = .ok (.aload_n 0, 1) := by decide +kernel
theorem dX6_reads_32 : decode cX6_reads 32 = .ok (.iconst 0, 1) := by decide +kernel
theorem dX6_reads_33 : decode cX6_reads 33 = .ok (.putfield 27, 3) := by decide +kernel
theorem dX6_reads_36 : decode cX6_reads 36 = .ok (.aload_n 0, 1) := by decide +kernel
theorem dX6_reads_37 : decode cX6_reads 37 = .ok (.iconst 0, 1) := by decide +kernel
theorem dX6_reads_38 : decode cX6_reads 38 = .ok (.putfield 31, 3) := by decide +kernel
theorem dX6_reads_41 : decode cX6_reads 41 = .ok (.aload_n 0, 1) := by decide +kernel
theorem dX6_reads_42 : decode cX6_reads 42 = .ok (.aload_n 0, 1) := by decide +kernel
theorem dX6_reads_43 : decode cX6_reads 43 = .ok (.invokevirtual 76, 3) := by decide +kernel
theorem dX6_reads_46 : decode cX6_reads 46 = .ok (.putfield 34, 3) := by decide +kernel
theorem dX6_reads_49 : decode cX6_reads 49 = .ok (.iconst 1, 1) := by decide +kernel
theorem dX6_reads_50 : decode cX6_reads 50 = .ok (.ireturn, 1) := by decide +kernel
theorem dX6_reads_51 : decode cX6_reads 51 = .ok (.astore_n 1, 1) := by decide +kernel
theorem dX6_reads_52 : decode cX6_reads 52 = .ok (.iconst 0, 1) := by decide +kernel
theorem dX6_reads_53 : decode cX6_reads 53 = .ok (.ireturn, 1) := by decide +kernel
set_option maxHeartbeats 4000000 in
set_option maxRecDepth 100000 in
theorem c_Pa_reads0 (l : Launch) (d : gD) (b : Nat) (Y : gYt) (F : gM) (S : gSt) (hW : gWT d Y F S) (hl : l.stackTraces = false) (hv4 : sV S 4 = 0) (hf14 : sF S 14 0 = 0) (hf16 : sF S 16 0 = 0) (hz7 : sZ S 7 = 0) (hn7 : sN S 7 = 16) (hz8 : sZ S 8 = 0) (hn8 : sN S 8 = 16) (hz9 : sZ S 9 = 0) (hn9 : sN S 9 = 16) (hz10 : sZ S 10 = 0) (hn10 : sN S 10 = 16) (hz11 : sZ S 11 = 0) (hn11 : sN S 11 = 16) (hz12 : sZ S 12 = 0) (hn12 : sN S 12 = 16) (hz13 : sZ S 13 = 0) (hn13 : sN S 13 = 16) (hz21 : sZ S 21 = 0) (hn21 : sN S 21 = 16) (hz22 : sZ S 22 = 0) (hn22 : sN S 22 = 16) (hz23 : sZ S 23 = 0) (hn23 : sN S 23 = 16) : Met l yX6_reads (.codeWith yX6_reads cX6_reads 2 (some .boolean) [(41, 50, 51, 80)] :: gWs) (gR 10 1 6) (va_Pc [.ref (gO' Y 4)] (gB d b F)) (va_Qi (fun r F' => r = 0 ∧ ∃ S', gWT d Y F' S' ∧ gKp Y F F' ∧ gSm S S' [7, 8, 9, 10, 11, 12, 13, 21, 22, 23] [4, 5, 10, 11] ∧ sV S' 4 = 2 ∧ sV S' 5 = 0) (gB d b) (fun q => b ≤ q)) 1 6 (fun q => b ≤ q) := by
  refine gH_of2 rfl (nL := 2) (Nat.le_of_ble_eq_true rfl) ?_
  intro X hX hT hC; subst hX
  show gG X d b _ F 0 0 0 [some (.ref (gO' Y 4)), none] []
  have hM0 : gSm S S [7, 8, 9, 10, 11, 12, 13, 21, 22, 23] [4, 5, 10, 11] := gSm.rf
  have hK0 : gKp Y F F := gKp.rf
  refine g_aload_n hC dX6_reads_0 rfl ?_
  refine g_get hC fl_X6_60 (hW.o 4 (by decide)) rfl dX6_reads_1 ?_
  refine g_callVv (As := []) hC rfl (hW.o 2 (by decide)) (c_T_clear X.la d b Y F S hW hz7 hn7 hz8 hn8 hz9 hn9 hz10 hn10 hz11 hn11 hz12 hn12 hz13 hn13) cl_X6_68 rfl rfl (Nat.le_of_ble_eq_true rfl) (gFit_of (Nat.le_of_ble_eq_true rfl) (Nat.le_of_ble_eq_true rfl) (by first | exact Nat.le_of_ble_eq_true rfl | omega | (simp only [gR]; omega)) (by first | exact Nat.le_of_ble_eq_true rfl | omega | (simp only [gR]; omega))) dX6_reads_4 (fun F1 p2 => ?_)
  obtain ⟨S4, hW5, k6, s7, y8, y9, y10, y11, y12, y13, y14, y15, y16, y17, y18, y19, y20, y21⟩ := p2
  have hM22 : gSm S S4 [7, 8, 9, 10, 11, 12, 13, 21, 22, 23] [4, 5, 10, 11] := hM0.tr s7 _ _ rfl rfl
  have hK23 : gKp Y F F1 := hK0.tr k6
  have z24 : sZ S4 21 = 0 := (s7.z 21 (by decide)).trans hz21
  have z25 : sN S4 21 = 16 := (s7.n 21 (by decide)).trans hn21
  have z26 : sZ S4 22 = 0 := (s7.z 22 (by decide)).trans hz22
  have z27 : sN S4 22 = 16 := (s7.n 22 (by decide)).trans hn22
  have z28 : sZ S4 23 = 0 := (s7.z 23 (by decide)).trans hz23
  have z29 : sN S4 23 = 16 := (s7.n 23 (by decide)).trans hn23
  have z30 : sV S4 4 = 0 := (s7.v 4 (by decide)).trans hv4
  clear hz7 hn7 hz8 hn8 hz9 hn9 hz10 hn10 hz11 hn11 hz12 hn12 hz13 hn13 hz21 hn21 hz22 hn22 hz23 hn23 hv4 hM0 hK0 s7 k6 hW
  refine g_aload_n hC dX6_reads_7 rfl ?_
  refine g_get hC fl_X6_15 (hW5.o 4 (by decide)) rfl dX6_reads_8 ?_
  refine g_iconst (v := 0) hC dX6_reads_11 rfl ?_
  refine g_callVv (As := [.int 0]) hC rfl (hW5.r 21 (by decide)).1 (c_Ints_cut X.la d b F1 _ _ _ _ _ _ (hW5.r 21 (by decide)) 0) cl_X6_73 rfl rfl (Nat.le_of_ble_eq_true rfl) (gFit_of (Nat.le_of_ble_eq_true rfl) (Nat.le_of_ble_eq_true rfl) (by first | exact Nat.le_of_ble_eq_true rfl | omega | (simp only [gR]; omega)) (by first | exact Nat.le_of_ble_eq_true rfl | omega | (simp only [gR]; omega))) dX6_reads_12 (fun F32 p33 => ?_)
  obtain ⟨S34, hW35, k36, s37, u38, u39, u40, u41, u42⟩ := wt_cut hW5 (by decide) p33
  have hM43 : gSm S S34 [7, 8, 9, 10, 11, 12, 13, 21, 22, 23] [4, 5, 10, 11] := hM22.tr s37 _ _ rfl rfl
  have hK44 : gKp Y F F32 := hK23.tr k36
  have z45 : sZ S34 22 = 0 := (s37.z 22 (by decide)).trans z26
  have z46 : sN S34 22 = 16 := (s37.n 22 (by decide)).trans z27
  have z47 : sZ S34 23 = 0 := (s37.z 23 (by decide)).trans z28
  have z48 : sN S34 23 = 16 := (s37.n 23 (by decide)).trans z29
  have z49 : sZ S34 7 = 1 := (s37.z 7 (by decide)).trans y8
  have z50 : sN S34 7 = 16 := (s37.n 7 (by decide)).trans y15
  have z51 : sZ S34 8 = 1 := (s37.z 8 (by decide)).trans y9
  have z52 : sN S34 8 = 16 := (s37.n 8 (by decide)).trans y16
  have z53 : sZ S34 9 = 1 := (s37.z 9 (by decide)).trans y10
  have z54 : sN S34 9 = 16 := (s37.n 9 (by decide)).trans y17
  have z55 : sZ S34 10 = 1 := (s37.z 10 (by decide)).trans y11
  have z56 : sN S34 10 = 16 := (s37.n 10 (by decide)).trans y18
  have z57 : sZ S34 11 = 1 := (s37.z 11 (by decide)).trans y12
  have z58 : sN S34 11 = 16 := (s37.n 11 (by decide)).trans y19
  have z59 : sZ S34 12 = 1 := (s37.z 12 (by decide)).trans y13
  have z60 : sN S34 12 = 16 := (s37.n 12 (by decide)).trans y20
  have z61 : sZ S34 13 = 1 := (s37.z 13 (by decide)).trans y14
  have z62 : sN S34 13 = 16 := (s37.n 13 (by decide)).trans y21
  have z63 : sV S34 4 = 0 := (s37.v 4 (by decide)).trans z30
  have z64 : sZ S34 21 = 0 := Nat.le_zero.mp (Nat.le_trans u42 (Nat.le_of_eq z24))
  have z65 : sN S34 21 = 16 := u38.trans z25
  clear z24 z25 z26 z27 z28 z29 y8 y15 y9 y16 y10 y17 y11 y18 y12 y19 y13 y20 y14 y21 z30 hM22 hK23 s37 k36 hW5 p33 u38 u39 u40 u41 u42
  refine g_aload_n hC dX6_reads_15 rfl ?_
  refine g_get hC fl_X6_21 (hW35.o 4 (by decide)) rfl dX6_reads_16 ?_
  refine g_iconst (v := 0) hC dX6_reads_19 rfl ?_
  refine g_callVv (As := [.int 0]) hC rfl (hW35.r 22 (by decide)).1 (c_Ints_cut X.la d b F32 _ _ _ _ _ _ (hW35.r 22 (by decide)) 0) cl_X6_73 rfl rfl (Nat.le_of_ble_eq_true rfl) (gFit_of (Nat.le_of_ble_eq_true rfl) (Nat.le_of_ble_eq_true rfl) (by first | exact Nat.le_of_ble_eq_true rfl | omega | (simp only [gR]; omega)) (by first | exact Nat.le_of_ble_eq_true rfl | omega | (simp only [gR]; omega))) dX6_reads_20 (fun F67 p68 => ?_)
  obtain ⟨S69, hW70, k71, s72, u73, u74, u75, u76, u77⟩ := wt_cut hW35 (by decide) p68
  have hM78 : gSm S S69 [7, 8, 9, 10, 11, 12, 13, 21, 22, 23] [4, 5, 10, 11] := hM43.tr s72 _ _ rfl rfl
  have hK79 : gKp Y F F67 := hK44.tr k71
  have z80 : sZ S69 23 = 0 := (s72.z 23 (by decide)).trans z47
  have z81 : sN S69 23 = 16 := (s72.n 23 (by decide)).trans z48
  have z82 : sZ S69 7 = 1 := (s72.z 7 (by decide)).trans z49
  have z83 : sN S69 7 = 16 := (s72.n 7 (by decide)).trans z50
  have z84 : sZ S69 8 = 1 := (s72.z 8 (by decide)).trans z51
  have z85 : sN S69 8 = 16 := (s72.n 8 (by decide)).trans z52
  have z86 : sZ S69 9 = 1 := (s72.z 9 (by decide)).trans z53
  have z87 : sN S69 9 = 16 := (s72.n 9 (by decide)).trans z54
  have z88 : sZ S69 10 = 1 := (s72.z 10 (by decide)).trans z55
  have z89 : sN S69 10 = 16 := (s72.n 10 (by decide)).trans z56
  have z90 : sZ S69 11 = 1 := (s72.z 11 (by decide)).trans z57
  have z91 : sN S69 11 = 16 := (s72.n 11 (by decide)).trans z58
  have z92 : sZ S69 12 = 1 := (s72.z 12 (by decide)).trans z59
  have z93 : sN S69 12 = 16 := (s72.n 12 (by decide)).trans z60
  have z94 : sZ S69 13 = 1 := (s72.z 13 (by decide)).trans z61
  have z95 : sN S69 13 = 16 := (s72.n 13 (by decide)).trans z62
  have z96 : sZ S69 21 = 0 := (s72.z 21 (by decide)).trans z64
  have z97 : sN S69 21 = 16 := (s72.n 21 (by decide)).trans z65
  have z98 : sV S69 4 = 0 := (s72.v 4 (by decide)).trans z63
  have z99 : sZ S69 22 = 0 := Nat.le_zero.mp (Nat.le_trans u77 (Nat.le_of_eq z45))
  have z100 : sN S69 22 = 16 := u73.trans z46
  clear z45 z46 z47 z48 z49 z50 z51 z52 z53 z54 z55 z56 z57 z58 z59 z60 z61 z62 z64 z65 z63 hM43 hK44 s72 k71 hW35 p68 u73 u74 u75 u76 u77
  refine g_aload_n hC dX6_reads_23 rfl ?_
  refine g_get hC fl_X6_24 (hW70.o 4 (by decide)) rfl dX6_reads_24 ?_
  refine g_iconst (v := 0) hC dX6_reads_27 rfl ?_
  refine g_callVv (As := [.int 0]) hC rfl (hW70.r 23 (by decide)).1 (c_Ints_cut X.la d b F67 _ _ _ _ _ _ (hW70.r 23 (by decide)) 0) cl_X6_73 rfl rfl (Nat.le_of_ble_eq_true rfl) (gFit_of (Nat.le_of_ble_eq_true rfl) (Nat.le_of_ble_eq_true rfl) (by first | exact Nat.le_of_ble_eq_true rfl | omega | (simp only [gR]; omega)) (by first | exact Nat.le_of_ble_eq_true rfl | omega | (simp only [gR]; omega))) dX6_reads_28 (fun F102 p103 => ?_)
  obtain ⟨S104, hW105, k106, s107, u108, u109, u110, u111, u112⟩ := wt_cut hW70 (by decide) p103
  have hM113 : gSm S S104 [7, 8, 9, 10, 11, 12, 13, 21, 22, 23] [4, 5, 10, 11] := hM78.tr s107 _ _ rfl rfl
  have hK114 : gKp Y F F102 := hK79.tr k106
  have z115 : sZ S104 7 = 1 := (s107.z 7 (by decide)).trans z82
  have z116 : sN S104 7 = 16 := (s107.n 7 (by decide)).trans z83
  have z117 : sZ S104 8 = 1 := (s107.z 8 (by decide)).trans z84
  have z118 : sN S104 8 = 16 := (s107.n 8 (by decide)).trans z85
  have z119 : sZ S104 9 = 1 := (s107.z 9 (by decide)).trans z86
  have z120 : sN S104 9 = 16 := (s107.n 9 (by decide)).trans z87
  have z121 : sZ S104 10 = 1 := (s107.z 10 (by decide)).trans z88
  have z122 : sN S104 10 = 16 := (s107.n 10 (by decide)).trans z89
  have z123 : sZ S104 11 = 1 := (s107.z 11 (by decide)).trans z90
  have z124 : sN S104 11 = 16 := (s107.n 11 (by decide)).trans z91
  have z125 : sZ S104 12 = 1 := (s107.z 12 (by decide)).trans z92
  have z126 : sN S104 12 = 16 := (s107.n 12 (by decide)).trans z93
  have z127 : sZ S104 13 = 1 := (s107.z 13 (by decide)).trans z94
  have z128 : sN S104 13 = 16 := (s107.n 13 (by decide)).trans z95
  have z129 : sZ S104 21 = 0 := (s107.z 21 (by decide)).trans z96
  have z130 : sN S104 21 = 16 := (s107.n 21 (by decide)).trans z97
  have z131 : sZ S104 22 = 0 := (s107.z 22 (by decide)).trans z99
  have z132 : sN S104 22 = 16 := (s107.n 22 (by decide)).trans z100
  have z133 : sV S104 4 = 0 := (s107.v 4 (by decide)).trans z98
  have z134 : sZ S104 23 = 0 := Nat.le_zero.mp (Nat.le_trans u112 (Nat.le_of_eq z80))
  have z135 : sN S104 23 = 16 := u108.trans z81
  clear z80 z81 z82 z83 z84 z85 z86 z87 z88 z89 z90 z91 z92 z93 z94 z95 z96 z97 z99 z100 z98 hM78 hK79 s107 k106 hW70 p103 u108 u109 u110 u111 u112
  refine g_aload_n hC dX6_reads_31 rfl ?_
  refine g_iconst (v := 0) hC dX6_reads_32 rfl ?_
  refine g_put hC fl_X6_27 (hW105.o 4 (by decide)) rfl rfl (Nat.le_of_ble_eq_true rfl) dX6_reads_33 ?_
  refine g_vF (fun F136 hF136 => ?_)
  obtain ⟨hW138, k139⟩ := gWT.put (k := 10) (x := 0) hW105 (i := 4) (by decide) hF136 rfl gsame_10 (fun q => absurd q (by decide))
  obtain ⟨S137, hS137⟩ : ∃ z, z = uV S104 10 0 := ⟨_, rfl⟩
  rw [← hS137] at hW138
  have s140 : gSm S104 S137 [] [10] := by rw [hS137]; exact gSm_uV
  have hM141 : gSm S S137 [7, 8, 9, 10, 11, 12, 13, 21, 22, 23] [4, 5, 10, 11] := hM113.tr s140 _ _ rfl rfl
  have hK142 : gKp Y F F136 := hK114.tr k139
  have z143 : sZ S137 7 = 1 := (s140.z 7 (by decide)).trans z115
  have z144 : sN S137 7 = 16 := (s140.n 7 (by decide)).trans z116
  have z145 : sZ S137 8 = 1 := (s140.z 8 (by decide)).trans z117
  have z146 : sN S137 8 = 16 := (s140.n 8 (by decide)).trans z118
  have z147 : sZ S137 9 = 1 := (s140.z 9 (by decide)).trans z119
  have z148 : sN S137 9 = 16 := (s140.n 9 (by decide)).trans z120
  have z149 : sZ S137 10 = 1 := (s140.z 10 (by decide)).trans z121
  have z150 : sN S137 10 = 16 := (s140.n 10 (by decide)).trans z122
  have z151 : sZ S137 11 = 1 := (s140.z 11 (by decide)).trans z123
  have z152 : sN S137 11 = 16 := (s140.n 11 (by decide)).trans z124
  have z153 : sZ S137 12 = 1 := (s140.z 12 (by decide)).trans z125
  have z154 : sN S137 12 = 16 := (s140.n 12 (by decide)).trans z126
  have z155 : sZ S137 13 = 1 := (s140.z 13 (by decide)).trans z127
  have z156 : sN S137 13 = 16 := (s140.n 13 (by decide)).trans z128
  have z157 : sZ S137 21 = 0 := (s140.z 21 (by decide)).trans z129
  have z158 : sN S137 21 = 16 := (s140.n 21 (by decide)).trans z130
  have z159 : sZ S137 22 = 0 := (s140.z 22 (by decide)).trans z131
  have z160 : sN S137 22 = 16 := (s140.n 22 (by decide)).trans z132
  have z161 : sZ S137 23 = 0 := (s140.z 23 (by decide)).trans z134
  have z162 : sN S137 23 = 16 := (s140.n 23 (by decide)).trans z135
  have z163 : sV S137 4 = 0 := (s140.v 4 (by decide)).trans z133
  have z164 : sV S137 10 = 0 := by rw [hS137]; exact uV_self
  clear z115 z116 z117 z118 z119 z120 z121 z122 z123 z124 z125 z126 z127 z128 z129 z130 z131 z132 z134 z135 z133 hM113 hK114 s140 k139 hW105
  refine g_aload_n hC dX6_reads_36 rfl ?_
  refine g_iconst (v := 0) hC dX6_reads_37 rfl ?_
  refine g_put hC fl_X6_31 (hW138.o 4 (by decide)) rfl rfl (Nat.le_of_ble_eq_true rfl) dX6_reads_38 ?_
  refine g_vF (fun F165 hF165 => ?_)
  obtain ⟨hW167, k168⟩ := gWT.put (k := 11) (x := 0) hW138 (i := 4) (by decide) hF165 rfl gsame_11 (fun q => absurd q (by decide))
  obtain ⟨S166, hS166⟩ : ∃ z, z = uV S137 11 0 := ⟨_, rfl⟩
  rw [← hS166] at hW167
  have s169 : gSm S137 S166 [] [11] := by rw [hS166]; exact gSm_uV
  have hM170 : gSm S S166 [7, 8, 9, 10, 11, 12, 13, 21, 22, 23] [4, 5, 10, 11] := hM141.tr s169 _ _ rfl rfl
  have hK171 : gKp Y F F165 := hK142.tr k168
  have z172 : sZ S166 7 = 1 := (s169.z 7 (by decide)).trans z143
  have z173 : sN S166 7 = 16 := (s169.n 7 (by decide)).trans z144
  have z174 : sZ S166 8 = 1 := (s169.z 8 (by decide)).trans z145
  have z175 : sN S166 8 = 16 := (s169.n 8 (by decide)).trans z146
  have z176 : sZ S166 9 = 1 := (s169.z 9 (by decide)).trans z147
  have z177 : sN S166 9 = 16 := (s169.n 9 (by decide)).trans z148
  have z178 : sZ S166 10 = 1 := (s169.z 10 (by decide)).trans z149
  have z179 : sN S166 10 = 16 := (s169.n 10 (by decide)).trans z150
  have z180 : sZ S166 11 = 1 := (s169.z 11 (by decide)).trans z151
  have z181 : sN S166 11 = 16 := (s169.n 11 (by decide)).trans z152
  have z182 : sZ S166 12 = 1 := (s169.z 12 (by decide)).trans z153
  have z183 : sN S166 12 = 16 := (s169.n 12 (by decide)).trans z154
  have z184 : sZ S166 13 = 1 := (s169.z 13 (by decide)).trans z155
  have z185 : sN S166 13 = 16 := (s169.n 13 (by decide)).trans z156
  have z186 : sZ S166 21 = 0 := (s169.z 21 (by decide)).trans z157
  have z187 : sN S166 21 = 16 := (s169.n 21 (by decide)).trans z158
  have z188 : sZ S166 22 = 0 := (s169.z 22 (by decide)).trans z159
  have z189 : sN S166 22 = 16 := (s169.n 22 (by decide)).trans z160
  have z190 : sZ S166 23 = 0 := (s169.z 23 (by decide)).trans z161
  have z191 : sN S166 23 = 16 := (s169.n 23 (by decide)).trans z162
  have z192 : sV S166 4 = 0 := (s169.v 4 (by decide)).trans z163
  have z193 : sV S166 10 = 0 := (s169.v 10 (by decide)).trans z164
  have z194 : sV S166 11 = 0 := by rw [hS166]; exact uV_self
  clear z143 z144 z145 z146 z147 z148 z149 z150 z151 z152 z153 z154 z155 z156 z157 z158 z159 z160 z161 z162 z163 z164 hM141 hK142 s169 k168 hW138
  have f195 : sF S166 14 0 = 0 := by rw [hM170.f 14 (by decide)]; exact hf14
  have f196 : sF S166 16 0 = 0 := by rw [hM170.f 16 (by decide)]; exact hf16
  refine g_aload_n hC dX6_reads_41 rfl ?_
  refine g_aload_n hC dX6_reads_42 rfl ?_
  refine g_xcallVi (As := []) hC rfl (hW167.o 4 (by decide)) (c_Pa_text X.la d b Y F165 S166 hW167 hl z192 z193 f195 f196 z172 z173 z174 z175 z176 z177 z178 z179 z180 z181 z182 z183 z184 z185) cl_X6_76 rfl rfl (Nat.le_of_ble_eq_true rfl) (gFit_of (Nat.le_of_ble_eq_true rfl) (Nat.le_of_ble_eq_true rfl) (by first | exact Nat.le_of_ble_eq_true rfl | omega | (simp only [gR]; omega)) (by first | exact Nat.le_of_ble_eq_true rfl | omega | (simp only [gR]; omega))) dX6_reads_43 (fun F197 p198 => ?_) (fun _ _ q => q.elim)
  obtain ⟨S199, hW200, k201, s202, y203, y204⟩ := p198
  have hM205 : gSm S S199 [7, 8, 9, 10, 11, 12, 13, 21, 22, 23] [4, 5, 10, 11] := hM170.tr s202 _ _ rfl rfl
  have hK206 : gKp Y F F197 := hK171.tr k201
  have z207 : sZ S199 21 = 0 := (s202.z 21 (by decide)).trans z186
  have z208 : sN S199 21 = 16 := (s202.n 21 (by decide)).trans z187
  have z209 : sZ S199 22 = 0 := (s202.z 22 (by decide)).trans z188
  have z210 : sN S199 22 = 16 := (s202.n 22 (by decide)).trans z189
  have z211 : sZ S199 23 = 0 := (s202.z 23 (by decide)).trans z190
  have z212 : sN S199 23 = 16 := (s202.n 23 (by decide)).trans z191
  have z213 : sV S199 10 = 0 := (s202.v 10 (by decide)).trans z193
  have z214 : sV S199 11 = 0 := (s202.v 11 (by decide)).trans z194
  refine g_xcatch (name := "java/lang/IllegalStateException") hC hT ⟨by decide, by decide⟩ (by decide) kw_950 (by decide) (fun q215 => ?_)
  refine g_astore_n (lv' := [some (.ref (gO' Y 4)), some (.ref q215)]) hC dX6_reads_51 (Nat.le_of_ble_eq_true rfl) rfl rfl ?_
  refine g_iconst (v := 0) hC dX6_reads_52 rfl ?_
  exact g_iret hC rfl ⟨rfl, S199, hW200, hK206, hM205, y203, y204⟩ (by first | exact Nat.le_of_ble_eq_true rfl | omega | (simp only [gR]; omega)) (by first | exact Nat.le_of_ble_eq_true rfl | omega | (simp only [gR]; omega)) dX6_reads_53
theorem dX11_compile_0 : decode cX11_compile 0 = .ok (.aload_n 0, 1) := by decide +kernel
theorem dX11_compile_1 : decode cX11_compile 1 = .ok (.getfield 21, 3) := by decide +kernel
theorem dX11_compile_4 : decode cX11_compile 4 = .ok (.aload_n 0, 1) := by decide +kernel
theorem dX11_compile_5 : decode cX11_compile 5 = .ok (.getfield 75, 3) := by decide +kernel
theorem dX11_compile_8 : decode cX11_compile 8 = .ok (.invokevirtual 95, 3) := by decide +kernel
theorem dX11_compile_11 : decode cX11_compile 11 = .ok (.aload_n 0, 1) := by decide +kernel
theorem dX11_compile_12 : decode cX11_compile 12 = .ok (.getfield 37, 3) := by decide +kernel
theorem dX11_compile_15 : decode cX11_compile 15 = .ok (.invokevirtual 98, 3) := by decide +kernel
theorem dX11_compile_18 : decode cX11_compile 18 = .ok (.aload_n 0, 1) := by decide +kernel
theorem dX11_compile_19 : decode cX11_compile 19 = .ok (.getfield 46, 3) := by decide +kernel
theorem dX11_compile_22 : decode cX11_compile 22 = .ok (.invokevirtual 101, 3) := by decide +kernel
theorem dX11_compile_25 : decode cX11_compile 25 = .ok (.ifCond .eq 17, 3) := by decide +kernel
theorem dX11_compile_28 : decode cX11_compile 28 = .ok (.aload_n 0, 1) := by decide +kernel
theorem dX11_compile_29 : decode cX11_compile 29 = .ok (.getfield 55, 3) := by decide +kernel
theorem dX11_compile_32 : decode cX11_compile 32 = .ok (.aload_n 0, 1) := by decide +kernel
theorem dX11_compile_33 : decode cX11_compile 33 = .ok (.getfield 46, 3) := by decide +kernel
theorem dX11_compile_36 : decode cX11_compile 36 = .ok (.invokevirtual 105, 3) := by decide +kernel
theorem dX11_compile_39 : decode cX11_compile 39 = .ok (.invokevirtual 108, 3) := by decide +kernel
theorem dX11_compile_42 : decode cX11_compile 42 = .ok (.aload_n 0, 1) := by decide +kernel
theorem dX11_compile_43 : decode cX11_compile 43 = .ok (.getfield 21, 3) := by decide +kernel
theorem dX11_compile_46 : decode cX11_compile 46 = .ok (.invokevirtual 111, 3) := by decide +kernel
theorem dX11_compile_49 : decode cX11_compile 49 = .ok (.aload_n 0, 1) := by decide +kernel
theorem dX11_compile_50 : decode cX11_compile 50 = .ok (.getfield 14, 3) := by decide +kernel
theorem dX11_compile_53 : decode cX11_compile 53 = .ok (.iconst 0, 1) := by decide +kernel
theorem dX11_compile_54 : decode cX11_compile 54 = .ok (.invokevirtual 92, 3) := by decide +kernel
theorem dX11_compile_57 : decode cX11_compile 57 = .ok (.aload_n 0, 1) := by decide +kernel
theorem dX11_compile_58 : decode cX11_compile 58 = .ok (.getfield 21, 3) := by decide +kernel
theorem dX11_compile_61 : decode cX11_compile 61 = .ok (.invokevirtual 114, 3) := by decide +kernel
theorem dX11_compile_64 : decode cX11_compile 64 = .ok (.ifCond .eq 13, 3) := by decide +kernel
theorem dX11_compile_67 : decode cX11_compile 67 = .ok (.iconst (-1), 1) := by decide +kernel
theorem dX11_compile_68 : decode cX11_compile 68 = .ok (.aload_n 0, 1) := by decide +kernel
theorem dX11_compile_69 : decode cX11_compile 69 = .ok (.getfield 21, 3) := by decide +kernel
theorem dX11_compile_72 : decode cX11_compile 72 = .ok (.invokevirtual 117, 3) := by decide +kernel
theorem dX11_compile_75 : decode cX11_compile 75 = .ok (.isub, 1) := by decide +kernel
theorem dX11_compile_76 : decode cX11_compile 76 = .ok (.ireturn, 1) := by decide +kernel
theorem dX11_compile_77 : decode cX11_compile 77 = .ok (.aload_n 0, 1) := by decide +kernel
theorem dX11_compile_78 : decode cX11_compile 78 = .ok (.aload_n 0, 1) := by decide +kernel
theorem dX11_compile_79 : decode cX11_compile 79 = .ok (.getfield 75, 3) := by decide +kernel
theorem dX11_compile_82 : decode cX11_compile 82 = .ok (.putfield 79, 3) := by decide +kernel
theorem dX11_compile_85 : decode cX11_compile 85 = .ok (.aload_n 0, 1) := by decide +kernel
theorem dX11_compile_86 : decode cX11_compile 86 = .ok (.getfield 21, 3) := by decide +kernel
theorem dX11_compile_89 : decode cX11_compile 89 = .ok (.invokevirtual 120, 3) := by decide +kernel
theorem dX11_compile_92 : decode cX11_compile 92 = .ok (.ireturn, 1) := by decide +kernel
set_option maxHeartbeats 4000000 in
set_option maxRecDepth 100000 in
theorem c_W_compile0 (l : Launch) (d : gD) (b : Nat) (Y : gYt) (F : gM) (S : gSt) (hW : gWT d Y F S) (hl : l.stackTraces = false) (hz0 : sZ S 0 = 0) (hn0 : sN S 0 = 16) (hz1 : sZ S 1 = 0) (hn1 : sN S 1 = 16) (hz2 : sZ S 2 = 0) (hn2 : sN S 2 = 16) (hz3 : sZ S 3 = 0) (hn3 : sN S 3 = 16) (hz4 : sZ S 4 = 0) (hn4 : sN S 4 = 16) (hz5 : sZ S 5 = 0) (hn5 : sN S 5 = 16) (hz6 : sZ S 6 = 0) (hn6 : sN S 6 = 16) (hz7 : sZ S 7 = 0) (hn7 : sN S 7 = 16) (hz8 : sZ S 8 = 0) (hn8 : sN S 8 = 16) (hz9 : sZ S 9 = 0) (hn9 : sN S 9 = 16) (hz10 : sZ S 10 = 0) (hn10 : sN S 10 = 16) (hz11 : sZ S 11 = 0) (hn11 : sN S 11 = 16) (hz12 : sZ S 12 = 0) (hn12 : sN S 12 = 16) (hz13 : sZ S 13 = 0) (hn13 : sN S 13 = 16) (hz21 : sZ S 21 = 0) (hn21 : sN S 21 = 16) (hz22 : sZ S 22 = 0) (hn22 : sN S 22 = 16) (hz23 : sZ S 23 = 0) (hn23 : sN S 23 = 16) (hz14 : sZ S 14 = 0) (hn14 : sN S 14 = 16) (hz15 : sZ S 15 = 0) (hn15 : sN S 15 = 16) (hz16 : sZ S 16 = 0) (hn16 : sN S 16 = 16) : gMi l d b yX11_compile cX11_compile 1 .int 11 200 26000 F [.ref (gO' Y 0)] (fun r F' => r = (-1) ∧ ∃ S', gWT d Y F' S' ∧ gKp Y F F' ∧ gSm S S' [0, 1, 2, 3, 4, 5, 6, 7, 8, 9, 10, 11, 12, 13, 14, 15, 16, 17, 18, 19, 20, 21, 22, 23] [2, 3, 4, 5, 6, 8, 9, 10, 11]) := by
  refine gM_of2 rfl (nL := 1) (Nat.le_of_ble_eq_true rfl) ?_
  intro X hX hC; subst hX
  show gG X d b _ F 0 0 0 [some (.ref (gO' Y 0))] []
  have hM0 : gSm S S [0, 1, 2, 3, 4, 5, 6, 7, 8, 9, 10, 11, 12, 13, 14, 15, 16, 17, 18, 19, 20, 21, 22, 23] [2, 3, 4, 5, 6, 8, 9, 10, 11] := gSm.rf
  have hK0 : gKp Y F F := gKp.rf
  refine g_aload_n hC dX11_compile_0 rfl ?_
  refine g_get hC fl_X11_21 (hW.o 0 (by decide)) rfl dX11_compile_1 ?_
  refine g_aload_n hC dX11_compile_4 rfl ?_
  refine g_get hC fl_X11_75 (hW.o 0 (by decide)) rfl dX11_compile_5 ?_
  refine g_callVv (As := [.int (sV S 0)]) hC rfl (hW.o 1 (by decide)) (c_P_clear X.la d b Y F S hW (sV S 0) hz1 hn1 hz2 hn2 hz3 hn3 hz4 hn4 hz5 hn5 hz6 hn6) cl_X11_95 rfl rfl (Nat.le_of_ble_eq_true rfl) (gFit_of (Nat.le_of_ble_eq_true rfl) (Nat.le_of_ble_eq_true rfl) (by first | exact Nat.le_of_ble_eq_true rfl | omega | (simp only [gR]; omega)) (by first | exact Nat.le_of_ble_eq_true rfl | omega | (simp only [gR]; omega))) dX11_compile_8 (fun F1 p2 => ?_)
  obtain ⟨S4, hW5, k6, s7, y8, y9, y10, y11, y12, y13, y14⟩ := p2
  have hM15 : gSm S S4 [0, 1, 2, 3, 4, 5, 6, 7, 8, 9, 10, 11, 12, 13, 14, 15, 16, 17, 18, 19, 20, 21, 22, 23] [2, 3, 4, 5, 6, 8, 9, 10, 11] := hM0.tr s7 _ _ rfl rfl
  have hK16 : gKp Y F F1 := hK0.tr k6
  have z17 : sZ S4 0 = 0 := (s7.z 0 (by decide)).trans hz0
  have z18 : sN S4 0 = 16 := (s7.n 0 (by decide)).trans hn0
  have z19 : sZ S4 7 = 0 := (s7.z 7 (by decide)).trans hz7
  have z20 : sN S4 7 = 16 := (s7.n 7 (by decide)).trans hn7
  have z21 : sZ S4 8 = 0 := (s7.z 8 (by decide)).trans hz8
  have z22 : sN S4 8 = 16 := (s7.n 8 (by decide)).trans hn8
  have z23 : sZ S4 9 = 0 := (s7.z 9 (by decide)).trans hz9
  have z24 : sN S4 9 = 16 := (s7.n 9 (by decide)).trans hn9
  have z25 : sZ S4 10 = 0 := (s7.z 10 (by decide)).trans hz10
  have z26 : sN S4 10 = 16 := (s7.n 10 (by decide)).trans hn10
  have z27 : sZ S4 11 = 0 := (s7.z 11 (by decide)).trans hz11
  have z28 : sN S4 11 = 16 := (s7.n 11 (by decide)).trans hn11
  have z29 : sZ S4 12 = 0 := (s7.z 12 (by decide)).trans hz12
  have z30 : sN S4 12 = 16 := (s7.n 12 (by decide)).trans hn12
  have z31 : sZ S4 13 = 0 := (s7.z 13 (by decide)).trans hz13
  have z32 : sN S4 13 = 16 := (s7.n 13 (by decide)).trans hn13
  have z33 : sZ S4 21 = 0 := (s7.z 21 (by decide)).trans hz21
  have z34 : sN S4 21 = 16 := (s7.n 21 (by decide)).trans hn21
  have z35 : sZ S4 22 = 0 := (s7.z 22 (by decide)).trans hz22
  have z36 : sN S4 22 = 16 := (s7.n 22 (by decide)).trans hn22
  have z37 : sZ S4 23 = 0 := (s7.z 23 (by decide)).trans hz23
  have z38 : sN S4 23 = 16 := (s7.n 23 (by decide)).trans hn23
  have z39 : sZ S4 14 = 0 := (s7.z 14 (by decide)).trans hz14
  have z40 : sN S4 14 = 16 := (s7.n 14 (by decide)).trans hn14
  have z41 : sZ S4 15 = 0 := (s7.z 15 (by decide)).trans hz15
  have z42 : sN S4 15 = 16 := (s7.n 15 (by decide)).trans hn15
  have z43 : sZ S4 16 = 0 := (s7.z 16 (by decide)).trans hz16
  have z44 : sN S4 16 = 16 := (s7.n 16 (by decide)).trans hn16
  clear hz0 hn0 hz1 hn1 hz2 hn2 hz3 hn3 hz4 hn4 hz5 hn5 hz6 hn6 hz7 hn7 hz8 hn8 hz9 hn9 hz10 hn10 hz11 hn11 hz12 hn12 hz13 hn13 hz21 hn21 hz22 hn22 hz23 hn23 hz14 hn14 hz15 hn15 hz16 hn16 hM0 hK0 s7 k6 hW
  refine g_aload_n hC dX11_compile_11 rfl ?_
  refine g_get hC fl_X11_37 (hW5.o 0 (by decide)) rfl dX11_compile_12 ?_
  refine g_callVv (As := []) hC rfl (hW5.o 3 (by decide)) (c_S_scan0 X.la d b Y F1 S4 hW5 z17 z18 z39 z40 z41 z42 z43 z44) cl_X11_98 rfl rfl (Nat.le_of_ble_eq_true rfl) (gFit_of (Nat.le_of_ble_eq_true rfl) (Nat.le_of_ble_eq_true rfl) (by first | exact Nat.le_of_ble_eq_true rfl | omega | (simp only [gR]; omega)) (by first | exact Nat.le_of_ble_eq_true rfl | omega | (simp only [gR]; omega))) dX11_compile_15 (fun F45 p46 => ?_)
  obtain ⟨S48, hW49, k50, s51, y52, y53, y54⟩ := p46
  have hM55 : gSm S S48 [0, 1, 2, 3, 4, 5, 6, 7, 8, 9, 10, 11, 12, 13, 14, 15, 16, 17, 18, 19, 20, 21, 22, 23] [2, 3, 4, 5, 6, 8, 9, 10, 11] := hM15.tr s51 _ _ rfl rfl
  have hK56 : gKp Y F F45 := hK16.tr k50
  have z57 : sZ S48 0 = 0 := (s51.z 0 (by decide)).trans z17
  have z58 : sN S48 0 = 16 := (s51.n 0 (by decide)).trans z18
  have z59 : sZ S48 7 = 0 := (s51.z 7 (by decide)).trans z19
  have z60 : sN S48 7 = 16 := (s51.n 7 (by decide)).trans z20
  have z61 : sZ S48 8 = 0 := (s51.z 8 (by decide)).trans z21
  have z62 : sN S48 8 = 16 := (s51.n 8 (by decide)).trans z22
  have z63 : sZ S48 9 = 0 := (s51.z 9 (by decide)).trans z23
  have z64 : sN S48 9 = 16 := (s51.n 9 (by decide)).trans z24
  have z65 : sZ S48 10 = 0 := (s51.z 10 (by decide)).trans z25
  have z66 : sN S48 10 = 16 := (s51.n 10 (by decide)).trans z26
  have z67 : sZ S48 11 = 0 := (s51.z 11 (by decide)).trans z27
  have z68 : sN S48 11 = 16 := (s51.n 11 (by decide)).trans z28
  have z69 : sZ S48 12 = 0 := (s51.z 12 (by decide)).trans z29
  have z70 : sN S48 12 = 16 := (s51.n 12 (by decide)).trans z30
  have z71 : sZ S48 13 = 0 := (s51.z 13 (by decide)).trans z31
  have z72 : sN S48 13 = 16 := (s51.n 13 (by decide)).trans z32
  have z73 : sZ S48 21 = 0 := (s51.z 21 (by decide)).trans z33
  have z74 : sN S48 21 = 16 := (s51.n 21 (by decide)).trans z34
  have z75 : sZ S48 22 = 0 := (s51.z 22 (by decide)).trans z35
  have z76 : sN S48 22 = 16 := (s51.n 22 (by decide)).trans z36
  have z77 : sZ S48 23 = 0 := (s51.z 23 (by decide)).trans z37
  have z78 : sN S48 23 = 16 := (s51.n 23 (by decide)).trans z38
  have z79 : sZ S48 2 = 100 := (s51.z 2 (by decide)).trans y8
  have z80 : sN S48 2 = (sN S4 2) := (s51.n 2 (by decide)).trans rfl
  have z81 : sZ S48 3 = 0 := (s51.z 3 (by decide)).trans y9
  have z82 : sN S48 3 = (sN S4 3) := (s51.n 3 (by decide)).trans rfl
  have z83 : sZ S48 5 = 0 := (s51.z 5 (by decide)).trans y10
  have z84 : sN S48 5 = (sN S4 5) := (s51.n 5 (by decide)).trans rfl
  have z85 : sV S48 3 = (-1) := (s51.v 3 (by decide)).trans y11
  have z86 : sV S48 4 = 0 := (s51.v 4 (by decide)).trans y12
  have z87 : sV S48 5 = 0 := (s51.v 5 (by decide)).trans y13
  have z88 : sV S48 6 = 0 := (s51.v 6 (by decide)).trans y14
  clear z17 z18 z19 z20 z21 z22 z23 z24 z25 z26 z27 z28 z29 z30 z31 z32 z33 z34 z35 z36 z37 z38 z39 z40 z41 z42 z43 z44 y8 y9 y10 y11 y12 y13 y14 hM15 hK16 s51 k50 hW5
  refine g_aload_n hC dX11_compile_18 rfl ?_
  refine g_get hC fl_X11_46 (hW49.o 0 (by decide)) rfl dX11_compile_19 ?_
  refine g_callVWi (As := []) hC rfl (hW49.o 4 (by decide)) (c_Pa_reads0 X.la d b Y F45 S48 hW49 hl z86 y53 y54 z59 z60 z61 z62 z63 z64 z65 z66 z67 z68 z69 z70 z71 z72 z73 z74 z75 z76 z77 z78) cl_X11_101 rfl rfl (Nat.le_of_ble_eq_true rfl) (gFit_of (Nat.le_of_ble_eq_true rfl) (Nat.le_of_ble_eq_true rfl) (by first | exact Nat.le_of_ble_eq_true rfl | omega | (simp only [gR]; omega)) (by first | exact Nat.le_of_ble_eq_true rfl | omega | (simp only [gR]; omega))) dX11_compile_22 (fun r89 F90 p91 => ?_)
  obtain ⟨rfl, S92, hW93, k94, s95, y96, y97⟩ := p91
  have hM98 : gSm S S92 [0, 1, 2, 3, 4, 5, 6, 7, 8, 9, 10, 11, 12, 13, 14, 15, 16, 17, 18, 19, 20, 21, 22, 23] [2, 3, 4, 5, 6, 8, 9, 10, 11] := hM55.tr s95 _ _ rfl rfl
  have hK99 : gKp Y F F90 := hK56.tr k94
  have z100 : sZ S92 0 = 0 := (s95.z 0 (by decide)).trans z57
  have z101 : sN S92 0 = 16 := (s95.n 0 (by decide)).trans z58
  have z102 : sZ S92 2 = 100 := (s95.z 2 (by decide)).trans z79
  have z103 : sN S92 2 = (sN S4 2) := (s95.n 2 (by decide)).trans z80
  have z104 : sZ S92 3 = 0 := (s95.z 3 (by decide)).trans z81
  have z105 : sN S92 3 = (sN S4 3) := (s95.n 3 (by decide)).trans z82
  have z106 : sZ S92 5 = 0 := (s95.z 5 (by decide)).trans z83
  have z107 : sN S92 5 = (sN S4 5) := (s95.n 5 (by decide)).trans z84
  have z108 : sV S92 3 = (-1) := (s95.v 3 (by decide)).trans z85
  have z109 : sV S92 6 = 0 := (s95.v 6 (by decide)).trans z88
  refine g_if_eq (tgt := 42) hC dX11_compile_25 (by decide) (fun c110 => ?_) (fun c110 => ?_)
  · refine g_aload_n hC dX11_compile_42 rfl ?_
    refine g_get hC fl_X11_21 (hW93.o 0 (by decide)) rfl dX11_compile_43 ?_
    refine g_callVv (As := []) hC rfl (hW93.o 1 (by decide)) (c_P_judge1 X.la d b Y F90 S92 hW93 z102 z104 z106 y96) cl_X11_111 rfl rfl (Nat.le_of_ble_eq_true rfl) (gFit_of (Nat.le_of_ble_eq_true rfl) (Nat.le_of_ble_eq_true rfl) (by first | exact Nat.le_of_ble_eq_true rfl | omega | (simp only [gR]; omega)) (by first | exact Nat.le_of_ble_eq_true rfl | omega | (simp only [gR]; omega))) dX11_compile_46 (fun F111 p112 => ?_)
    obtain ⟨S114, hW115, k116, s117⟩ := p112
    have hM118 : gSm S S114 [0, 1, 2, 3, 4, 5, 6, 7, 8, 9, 10, 11, 12, 13, 14, 15, 16, 17, 18, 19, 20, 21, 22, 23] [2, 3, 4, 5, 6, 8, 9, 10, 11] := hM98.tr s117 _ _ rfl rfl
    have hK119 : gKp Y F F111 := hK99.tr k116
    have z120 : sZ S114 0 = 0 := (s117.z 0 (by decide)).trans z100
    have z121 : sN S114 0 = 16 := (s117.n 0 (by decide)).trans z101
    have z122 : sZ S114 2 = 100 := (s117.z 2 (by decide)).trans z102
    have z123 : sN S114 2 = (sN S4 2) := (s117.n 2 (by decide)).trans z103
    have z124 : sZ S114 3 = 0 := (s117.z 3 (by decide)).trans z104
    have z125 : sN S114 3 = (sN S4 3) := (s117.n 3 (by decide)).trans z105
    have z126 : sZ S114 5 = 0 := (s117.z 5 (by decide)).trans z106
    have z127 : sN S114 5 = (sN S4 5) := (s117.n 5 (by decide)).trans z107
    have z128 : sV S114 3 = (-1) := (s117.v 3 (by decide)).trans z108
    have z129 : sV S114 4 = 2 := (s117.v 4 (by decide)).trans y96
    have z130 : sV S114 5 = 0 := (s117.v 5 (by decide)).trans y97
    clear z57 z58 z59 z60 z61 z62 z63 z64 z65 z66 z67 z68 z69 z70 z71 z72 z73 z74 z75 z76 z77 z78 z79 z80 z81 z82 z83 z84 z85 z86 z87 z88 hM55 hK56 z100 z101 z102 z103 z104 z105 z106 z107 z108 z109 y96 y97 hM98 hK99 s117 k116 hW93
    refine g_aload_n hC dX11_compile_49 rfl ?_
    refine g_get hC fl_X11_14 (hW115.o 0 (by decide)) rfl dX11_compile_50 ?_
    refine g_iconst (v := 0) hC dX11_compile_53 rfl ?_
    refine g_callVv (As := [.int 0]) hC rfl (hW115.r 0 (by decide)).1 (c_Ints_cut X.la d b F111 _ _ _ _ _ _ (hW115.r 0 (by decide)) 0) cl_X11_92 rfl rfl (Nat.le_of_ble_eq_true rfl) (gFit_of (Nat.le_of_ble_eq_true rfl) (Nat.le_of_ble_eq_true rfl) (by first | exact Nat.le_of_ble_eq_true rfl | omega | (simp only [gR]; omega)) (by first | exact Nat.le_of_ble_eq_true rfl | omega | (simp only [gR]; omega))) dX11_compile_54 (fun F132 p133 => ?_)
    obtain ⟨S134, hW135, k136, s137, u138, u139, u140, u141, u142⟩ := wt_cut hW115 (by decide) p133
    have hM143 : gSm S S134 [0, 1, 2, 3, 4, 5, 6, 7, 8, 9, 10, 11, 12, 13, 14, 15, 16, 17, 18, 19, 20, 21, 22, 23] [2, 3, 4, 5, 6, 8, 9, 10, 11] := hM118.tr s137 _ _ rfl rfl
    have hK144 : gKp Y F F132 := hK119.tr k136
    have z145 : sZ S134 2 = 100 := (s137.z 2 (by decide)).trans z122
    have z146 : sN S134 2 = (sN S4 2) := (s137.n 2 (by decide)).trans z123
    have z147 : sZ S134 3 = 0 := (s137.z 3 (by decide)).trans z124
    have z148 : sN S134 3 = (sN S4 3) := (s137.n 3 (by decide)).trans z125
    have z149 : sZ S134 5 = 0 := (s137.z 5 (by decide)).trans z126
    have z150 : sN S134 5 = (sN S4 5) := (s137.n 5 (by decide)).trans z127
    have z151 : sV S134 3 = (-1) := (s137.v 3 (by decide)).trans z128
    have z152 : sV S134 4 = 2 := (s137.v 4 (by decide)).trans z129
    have z153 : sV S134 5 = 0 := (s137.v 5 (by decide)).trans z130
    have z154 : sZ S134 0 = 0 := Nat.le_zero.mp (Nat.le_trans u142 (Nat.le_of_eq z120))
    have z155 : sN S134 0 = 16 := u138.trans z121
    clear z120 z121 z122 z123 z124 z125 z126 z127 z128 z129 z130 hM118 hK119 s137 k136 hW115 p133 u138 u139 u140 u141 u142
    refine g_aload_n hC dX11_compile_57 rfl ?_
    refine g_get hC fl_X11_21 (hW135.o 0 (by decide)) rfl dX11_compile_58 ?_
    refine g_callVi (As := []) hC rfl (hW135.o 1 (by decide)) (c_P_kind X.la d b Y F132 S134 hW135 ) cl_X11_114 rfl rfl (Nat.le_of_ble_eq_true rfl) (gFit_of (Nat.le_of_ble_eq_true rfl) (Nat.le_of_ble_eq_true rfl) (by first | exact Nat.le_of_ble_eq_true rfl | omega | (simp only [gR]; omega)) (by first | exact Nat.le_of_ble_eq_true rfl | omega | (simp only [gR]; omega))) dX11_compile_61 (fun r158 F156 p157 => ?_)
    obtain ⟨rfl, eF156⟩ := p157; have eF156 := eF156.symm; subst eF156
    refine g_if_eq (tgt := 77) hC dX11_compile_64 (by decide) (fun c159 => ?_) (fun c159 => ?_)
    · rw [z152] at c159; exact absurd c159 (by decide)
    · refine g_iconst (v := (-1)) hC dX11_compile_67 rfl ?_
      refine g_aload_n hC dX11_compile_68 rfl ?_
      refine g_get hC fl_X11_21 (hW135.o 0 (by decide)) rfl dX11_compile_69 ?_
      refine g_callVi (As := []) hC rfl (hW135.o 1 (by decide)) (c_P_place X.la d b Y F132 S134 hW135 ) cl_X11_117 rfl rfl (Nat.le_of_ble_eq_true rfl) (gFit_of (Nat.le_of_ble_eq_true rfl) (Nat.le_of_ble_eq_true rfl) (by first | exact Nat.le_of_ble_eq_true rfl | omega | (simp only [gR]; omega)) (by first | exact Nat.le_of_ble_eq_true rfl | omega | (simp only [gR]; omega))) dX11_compile_72 (fun r162 F160 p161 => ?_)
      obtain ⟨rfl, eF160⟩ := p161; have eF160 := eF160.symm; subst eF160
      refine g_isub hC dX11_compile_75 ?_
      refine g_vi (fun x163 ex163 => ?_)
      exact g_iret hC rfl ⟨by rw [ex163, z153]; rfl, S134, hW135, hK144, hM143⟩ (by first | exact Nat.le_of_ble_eq_true rfl | omega | (simp only [gR]; omega)) (by first | exact Nat.le_of_ble_eq_true rfl | omega | (simp only [gR]; omega)) dX11_compile_76
  · exact absurd rfl c110
end
section
theorem kw_761 : Cond.fieldLink RX5 51 "WordTongue$Machine" "answer" "I" ∈ gWs := gWm 761 (by decide +kernel) rfl
theorem kw_766 : Cond.laysFinal RX5 "WordTongue$Machine" "program" "LWordTongue$Program;" ∈ gWs := gWm 766 (by decide +kernel) rfl
theorem kw_768 : Cond.laysFinal RX5 "WordTongue$Machine" "channels" "LWordTongue$Channels;" ∈ gWs := gWm 768 (by decide +kernel) rfl
theorem kw_770 : Cond.laysFinal RX5 "WordTongue$Machine" "heap" "LWordTongue$Heap;" ∈ gWs := gWm 770 (by decide +kernel) rfl
theorem kw_772 : Cond.laysFinal RX5 "WordTongue$Machine" "stack" "LWordTongue$Ints;" ∈ gWs := gWm 772 (by decide +kernel) rfl
theorem kw_774 : Cond.laysFinal RX5 "WordTongue$Machine" "calls" "LWordTongue$Ints;" ∈ gWs := gWm 774 (by decide +kernel) rfl
theorem kw_776 : Cond.lays RX5 "WordTongue$Machine" "cells" "[I" ∈ gWs := gWm 776 (by decide +kernel) rfl
theorem kw_778 : Cond.lays RX5 "WordTongue$Machine" "words" "I" ∈ gWs := gWm 778 (by decide +kernel) rfl
theorem kw_780 : Cond.lays RX5 "WordTongue$Machine" "at" "I" ∈ gWs := gWm 780 (by decide +kernel) rfl
theorem kw_782 : Cond.lays RX5 "WordTongue$Machine" "base" "I" ∈ gWs := gWm 782 (by decide +kernel) rfl
theorem kw_784 : Cond.lays RX5 "WordTongue$Machine" "routine" "I" ∈ gWs := gWm 784 (by decide +kernel) rfl
theorem kw_786 : Cond.lays RX5 "WordTongue$Machine" "rest" "I" ∈ gWs := gWm 786 (by decide +kernel) rfl
theorem kw_788 : Cond.lays RX5 "WordTongue$Machine" "answer" "I" ∈ gWs := gWm 788 (by decide +kernel) rfl
theorem kw_790 : Cond.lays RX5 "WordTongue$Machine" "error" "I" ∈ gWs := gWm 790 (by decide +kernel) rfl
theorem kw_792 : Cond.lays RX5 "WordTongue$Machine" "over" "Z" ∈ gWs := gWm 792 (by decide +kernel) rfl
theorem kw_794 : Cond.lays RX5 "WordTongue$Machine" "service" "I" ∈ gWs := gWm 794 (by decide +kernel) rfl
theorem kw_796 : Cond.lays RX5 "WordTongue$Machine" "given" "I" ∈ gWs := gWm 796 (by decide +kernel) rfl
set_option maxRecDepth 20000 in
theorem inW_RX5 : ∀ w ∈ u_ws RX5 TX5 16, w ∈ gWs := List.forall_mem_cons.mpr ⟨kw_766, List.forall_mem_cons.mpr ⟨kw_768, List.forall_mem_cons.mpr ⟨kw_770, List.forall_mem_cons.mpr ⟨kw_772, List.forall_mem_cons.mpr ⟨kw_774, List.forall_mem_cons.mpr ⟨kw_776, List.forall_mem_cons.mpr ⟨kw_778, List.forall_mem_cons.mpr ⟨kw_780, List.forall_mem_cons.mpr ⟨kw_782, List.forall_mem_cons.mpr ⟨kw_784, List.forall_mem_cons.mpr ⟨kw_786, List.forall_mem_cons.mpr ⟨kw_788, List.forall_mem_cons.mpr ⟨kw_790, List.forall_mem_cons.mpr ⟨kw_792, List.forall_mem_cons.mpr ⟨kw_794, List.forall_mem_cons.mpr ⟨kw_796, fun _ h => nomatch h⟩⟩⟩⟩⟩⟩⟩⟩⟩⟩⟩⟩⟩⟩⟩⟩
theorem fl_X5_51 : gFL RX5 51 5 11 .int false := ⟨RX5, TX5, 16, tyX5, rfl, by decide, inW_RX5, kw_761, tyX5_ok, nmX5, rfl, by decide +kernel, fun h => by cases h⟩
theorem kw_760 : Cond.fieldLink RX5 48 "WordTongue$Machine" "rest" "I" ∈ gWs := gWm 760 (by decide +kernel) rfl
theorem fl_X5_48 : gFL RX5 48 5 10 .int false := ⟨RX5, TX5, 16, tyX5, rfl, by decide, inW_RX5, kw_760, tyX5_ok, nmX5, rfl, by decide +kernel, fun h => by cases h⟩
theorem kw_806 : Cond.fieldLink RX11 71 "WordTongue" "machine" "LWordTongue$Machine;" ∈ gWs := gWm 806 (by decide +kernel) rfl
theorem fl_X11_71 : gFL RX11 71 11 7 (.object "WordTongue$Machine") true := ⟨RX11, TX11, 10, tyX11, rfl, by decide, inW_RX11, kw_806, tyX11_ok, nmX11, rfl, by decide +kernel, fun _ => rfl⟩
theorem kw_255 : Cond.initialized RX5 ∈ gWs := gWm 255 (by decide +kernel) rfl
theorem kw_1885 : Cond.code yX5_told cX5_told 1 (some .int) ∈ gWs := gWm 1885 (by decide +kernel) rfl
theorem kw_1882 : Cond.methodLink RX11 141 yX5_told ∈ gWs := gWm 1882 (by decide +kernel) rfl
theorem kw_1883 : Cond.instanceMethod yX5_told ∈ gWs := gWm 1883 (by decide +kernel) rfl
theorem kw_1884 : Cond.selects RX5 yX5_told yX5_told ∈ gWs := gWm 1884 (by decide +kernel) rfl
theorem cl_X11_141 : gCV RX11 141 yX5_told cX5_told 1 (some .int) 0 := ⟨g_mk [.methodLink RX11 141 yX5_told, .instanceMethod yX5_told, .selects yX5_told.cls yX5_told yX5_told, .initialized yX5_told.cls] (gWs_all kw_1885) (List.forall_mem_cons.mpr ⟨kw_1882, List.forall_mem_cons.mpr ⟨kw_1883, List.forall_mem_cons.mpr ⟨kw_1884, List.forall_mem_cons.mpr ⟨kw_255, fun _ h => nomatch h⟩⟩⟩⟩), rfl, by decide +kernel, by decide +kernel, by decide +kernel⟩
theorem kw_1901 : Cond.code yX5_fuelLeft cX5_fuelLeft 1 (some .int) ∈ gWs := gWm 1901 (by decide +kernel) rfl
theorem kw_1898 : Cond.methodLink RX11 157 yX5_fuelLeft ∈ gWs := gWm 1898 (by decide +kernel) rfl
theorem kw_1899 : Cond.instanceMethod yX5_fuelLeft ∈ gWs := gWm 1899 (by decide +kernel) rfl
theorem kw_1900 : Cond.selects RX5 yX5_fuelLeft yX5_fuelLeft ∈ gWs := gWm 1900 (by decide +kernel) rfl
theorem cl_X11_157 : gCV RX11 157 yX5_fuelLeft cX5_fuelLeft 1 (some .int) 0 := ⟨g_mk [.methodLink RX11 157 yX5_fuelLeft, .instanceMethod yX5_fuelLeft, .selects yX5_fuelLeft.cls yX5_fuelLeft yX5_fuelLeft, .initialized yX5_fuelLeft.cls] (gWs_all kw_1901) (List.forall_mem_cons.mpr ⟨kw_1898, List.forall_mem_cons.mpr ⟨kw_1899, List.forall_mem_cons.mpr ⟨kw_1900, List.forall_mem_cons.mpr ⟨kw_255, fun _ h => nomatch h⟩⟩⟩⟩), rfl, by decide +kernel, by decide +kernel, by decide +kernel⟩
theorem kw_1636 : Cond.code yX7_isReady cX7_isReady 1 (some .boolean) ∈ gWs := gWm 1636 (by decide +kernel) rfl
theorem kw_1633 : Cond.methodLink RX11 134 yX7_isReady ∈ gWs := gWm 1633 (by decide +kernel) rfl
theorem kw_1634 : Cond.instanceMethod yX7_isReady ∈ gWs := gWm 1634 (by decide +kernel) rfl
theorem kw_1635 : Cond.selects RX7 yX7_isReady yX7_isReady ∈ gWs := gWm 1635 (by decide +kernel) rfl
theorem cl_X11_134 : gCV RX11 134 yX7_isReady cX7_isReady 1 (some .boolean) 0 := ⟨g_mk [.methodLink RX11 134 yX7_isReady, .instanceMethod yX7_isReady, .selects yX7_isReady.cls yX7_isReady yX7_isReady, .initialized yX7_isReady.cls] (gWs_all kw_1636) (List.forall_mem_cons.mpr ⟨kw_1633, List.forall_mem_cons.mpr ⟨kw_1634, List.forall_mem_cons.mpr ⟨kw_1635, List.forall_mem_cons.mpr ⟨kw_240, fun _ h => nomatch h⟩⟩⟩⟩), rfl, by decide +kernel, by decide +kernel, by decide +kernel⟩
theorem kw_834 : Cond.methodLink RX11 82 yX4_size ∈ gWs := gWm 834 (by decide +kernel) rfl
theorem cl_X11_82 : gCV RX11 82 yX4_size cX4_size 1 (some .int) 0 := ⟨g_mk [.methodLink RX11 82 yX4_size, .instanceMethod yX4_size, .selects yX4_size.cls yX4_size yX4_size, .initialized yX4_size.cls] (gWs_all kw_428) (List.forall_mem_cons.mpr ⟨kw_834, List.forall_mem_cons.mpr ⟨kw_426, List.forall_mem_cons.mpr ⟨kw_427, List.forall_mem_cons.mpr ⟨kw_239, fun _ h => nomatch h⟩⟩⟩⟩), rfl, by decide +kernel, by decide +kernel, by decide +kernel⟩
theorem kw_710 : Cond.fieldLink RX0 14 "WordTongue$Channels" "inputs" "[LWordTongue$Ints;" ∈ gWs := gWm 710 (by decide +kernel) rfl
theorem kw_715 : Cond.laysFinal RX0 "WordTongue$Channels" "inputs" "[LWordTongue$Ints;" ∈ gWs := gWm 715 (by decide +kernel) rfl
theorem kw_717 : Cond.laysFinal RX0 "WordTongue$Channels" "positions" "[I" ∈ gWs := gWm 717 (by decide +kernel) rfl
theorem kw_719 : Cond.laysFinal RX0 "WordTongue$Channels" "outputs" "[LWordTongue$Ints;" ∈ gWs := gWm 719 (by decide +kernel) rfl
theorem kw_721 : Cond.lays RX0 "WordTongue$Channels" "inHand" "I" ∈ gWs := gWm 721 (by decide +kernel) rfl
theorem kw_723 : Cond.lays RX0 "WordTongue$Channels" "outHand" "I" ∈ gWs := gWm 723 (by decide +kernel) rfl
set_option maxRecDepth 20000 in
theorem inW_RX0 : ∀ w ∈ u_ws RX0 TX0 5, w ∈ gWs := List.forall_mem_cons.mpr ⟨kw_715, List.forall_mem_cons.mpr ⟨kw_717, List.forall_mem_cons.mpr ⟨kw_719, List.forall_mem_cons.mpr ⟨kw_721, List.forall_mem_cons.mpr ⟨kw_723, fun _ h => nomatch h⟩⟩⟩⟩⟩
theorem fl_X0_14 : gFL RX0 14 0 0 (.array (.object "WordTongue$Ints")) true := ⟨RX0, TX0, 5, tyX0, rfl, by decide, inW_RX0, kw_710, tyX0_ok, nmX0, rfl, by decide +kernel, fun _ => rfl⟩
theorem kw_711 : Cond.fieldLink RX0 20 "WordTongue$Channels" "positions" "[I" ∈ gWs := gWm 711 (by decide +kernel) rfl
theorem fl_X0_20 : gFL RX0 20 0 1 (.array .int) true := ⟨RX0, TX0, 5, tyX0, rfl, by decide, inW_RX0, kw_711, tyX0_ok, nmX0, rfl, by decide +kernel, fun _ => rfl⟩
theorem kw_712 : Cond.fieldLink RX0 24 "WordTongue$Channels" "outputs" "[LWordTongue$Ints;" ∈ gWs := gWm 712 (by decide +kernel) rfl
theorem fl_X0_24 : gFL RX0 24 0 2 (.array (.object "WordTongue$Ints")) true := ⟨RX0, TX0, 5, tyX0, rfl, by decide, inW_RX0, kw_712, tyX0_ok, nmX0, rfl, by decide +kernel, fun _ => rfl⟩
theorem kw_254 : Cond.initialized RX0 ∈ gWs := gWm 254 (by decide +kernel) rfl
theorem kw_1812 : Cond.code yX0_isOutput cX0_isOutput 2 (some .boolean) ∈ gWs := gWm 1812 (by decide +kernel) rfl
theorem kw_1809 : Cond.methodLink RX0 46 yX0_isOutput ∈ gWs := gWm 1809 (by decide +kernel) rfl
theorem kw_1811 : Cond.instanceMethod yX0_isOutput ∈ gWs := gWm 1811 (by decide +kernel) rfl
theorem kw_118 : Cond.selects RX0 yX0_isOutput yX0_isOutput ∈ gWs := gWm 118 (by decide +kernel) rfl
theorem cl_X0_46 : gCV RX0 46 yX0_isOutput cX0_isOutput 2 (some .boolean) 1 := ⟨g_mk [.methodLink RX0 46 yX0_isOutput, .instanceMethod yX0_isOutput, .selects yX0_isOutput.cls yX0_isOutput yX0_isOutput, .initialized yX0_isOutput.cls] (gWs_all kw_1812) (List.forall_mem_cons.mpr ⟨kw_1809, List.forall_mem_cons.mpr ⟨kw_1811, List.forall_mem_cons.mpr ⟨kw_118, List.forall_mem_cons.mpr ⟨kw_254, fun _ h => nomatch h⟩⟩⟩⟩), rfl, by decide +kernel, by decide +kernel, by decide +kernel⟩
theorem kw_1628 : Cond.methodLink RX0 42 yX4_size ∈ gWs := gWm 1628 (by decide +kernel) rfl
theorem cl_X0_42 : gCV RX0 42 yX4_size cX4_size 1 (some .int) 0 := ⟨g_mk [.methodLink RX0 42 yX4_size, .instanceMethod yX4_size, .selects yX4_size.cls yX4_size yX4_size, .initialized yX4_size.cls] (gWs_all kw_428) (List.forall_mem_cons.mpr ⟨kw_1628, List.forall_mem_cons.mpr ⟨kw_426, List.forall_mem_cons.mpr ⟨kw_427, List.forall_mem_cons.mpr ⟨kw_239, fun _ h => nomatch h⟩⟩⟩⟩), rfl, by decide +kernel, by decide +kernel, by decide +kernel⟩
theorem kw_805 : Cond.fieldLink RX11 62 "WordTongue" "channels" "LWordTongue$Channels;" ∈ gWs := gWm 805 (by decide +kernel) rfl
theorem fl_X11_62 : gFL RX11 62 11 6 (.object "WordTongue$Channels") true := ⟨RX11, TX11, 10, tyX11, rfl, by decide, inW_RX11, kw_805, tyX11_ok, nmX11, rfl, by decide +kernel, fun _ => rfl⟩
theorem kw_1893 : Cond.code yX0_length cX0_length 2 (some .int) ∈ gWs := gWm 1893 (by decide +kernel) rfl
theorem kw_1890 : Cond.methodLink RX11 144 yX0_length ∈ gWs := gWm 1890 (by decide +kernel) rfl
theorem kw_1891 : Cond.instanceMethod yX0_length ∈ gWs := gWm 1891 (by decide +kernel) rfl
theorem kw_1892 : Cond.selects RX0 yX0_length yX0_length ∈ gWs := gWm 1892 (by decide +kernel) rfl
theorem cl_X11_144 : gCV RX11 144 yX0_length cX0_length 2 (some .int) 1 := ⟨g_mk [.methodLink RX11 144 yX0_length, .instanceMethod yX0_length, .selects yX0_length.cls yX0_length yX0_length, .initialized yX0_length.cls] (gWs_all kw_1893) (List.forall_mem_cons.mpr ⟨kw_1890, List.forall_mem_cons.mpr ⟨kw_1891, List.forall_mem_cons.mpr ⟨kw_1892, List.forall_mem_cons.mpr ⟨kw_254, fun _ h => nomatch h⟩⟩⟩⟩), rfl, by decide +kernel, by decide +kernel, by decide +kernel⟩
theorem kw_756 : Cond.fieldLink RX5 35 "WordTongue$Machine" "words" "I" ∈ gWs := gWm 756 (by decide +kernel) rfl
theorem fl_X5_35 : gFL RX5 35 5 6 .int false := ⟨RX5, TX5, 16, tyX5, rfl, by decide, inW_RX5, kw_756, tyX5_ok, nmX5, rfl, by decide +kernel, fun h => by cases h⟩
theorem kw_1666 : Cond.code yX5_isThere cX5_isThere 2 (some .boolean) ∈ gWs := gWm 1666 (by decide +kernel) rfl
theorem kw_1663 : Cond.methodLink RX5 75 yX5_isThere ∈ gWs := gWm 1663 (by decide +kernel) rfl
theorem kw_1665 : Cond.instanceMethod yX5_isThere ∈ gWs := gWm 1665 (by decide +kernel) rfl
theorem kw_99 : Cond.selects RX5 yX5_isThere yX5_isThere ∈ gWs := gWm 99 (by decide +kernel) rfl
theorem cl_X5_75 : gCV RX5 75 yX5_isThere cX5_isThere 2 (some .boolean) 1 := ⟨g_mk [.methodLink RX5 75 yX5_isThere, .instanceMethod yX5_isThere, .selects yX5_isThere.cls yX5_isThere yX5_isThere, .initialized yX5_isThere.cls] (gWs_all kw_1666) (List.forall_mem_cons.mpr ⟨kw_1663, List.forall_mem_cons.mpr ⟨kw_1665, List.forall_mem_cons.mpr ⟨kw_99, List.forall_mem_cons.mpr ⟨kw_255, fun _ h => nomatch h⟩⟩⟩⟩), rfl, by decide +kernel, by decide +kernel, by decide +kernel⟩
theorem dX5_told_0 : decode cX5_told 0 = .ok (.aload_n 0, 1) := by decide +kernel
theorem dX5_told_1 : decode cX5_told 1 = .ok (.getfield 51, 3) := by decide +kernel
theorem dX5_told_4 : decode cX5_told 4 = .ok (.ireturn, 1) := by decide +kernel
set_option maxHeartbeats 4000000 in
set_option maxRecDepth 100000 in
theorem c_M_told (l : Launch) (d : gD) (b : Nat) (Y : gYt) (F : gM) (S : gSt) (hW : gWT d Y F S)  : gMi l d b yX5_told cX5_told 1 .int 0 0 0 F [.ref (gO' Y 7)] (fun r F' => r = sV S 32 ∧ F' = F) := by
  refine gM_of2 rfl (nL := 1) (Nat.le_of_ble_eq_true rfl) ?_
  intro X hX hC; subst hX
  show gG X d b _ F 0 0 0 [some (.ref (gO' Y 7))] []
  have hM0 : gSm S S [] [] := gSm.rf
  have hK0 : gKp Y F F := gKp.rf
  refine g_aload_n hC dX5_told_0 rfl ?_
  refine g_get hC fl_X5_51 (hW.o 7 (by decide)) rfl dX5_told_1 ?_
  exact g_iret hC rfl ⟨rfl, rfl⟩ (by first | exact Nat.le_of_ble_eq_true rfl | omega | (simp only [gR]; omega)) (by first | exact Nat.le_of_ble_eq_true rfl | omega | (simp only [gR]; omega)) dX5_told_4
theorem dX5_fuelLeft_0 : decode cX5_fuelLeft 0 = .ok (.aload_n 0, 1) := by decide +kernel
theorem dX5_fuelLeft_1 : decode cX5_fuelLeft 1 = .ok (.getfield 48, 3) := by decide +kernel
theorem dX5_fuelLeft_4 : decode cX5_fuelLeft 4 = .ok (.ireturn, 1) := by decide +kernel
set_option maxHeartbeats 4000000 in
set_option maxRecDepth 100000 in
theorem c_M_left (l : Launch) (d : gD) (b : Nat) (Y : gYt) (F : gM) (S : gSt) (hW : gWT d Y F S)  : gMi l d b yX5_fuelLeft cX5_fuelLeft 1 .int 0 0 0 F [.ref (gO' Y 7)] (fun r F' => r = sV S 31 ∧ F' = F) := by
  refine gM_of2 rfl (nL := 1) (Nat.le_of_ble_eq_true rfl) ?_
  intro X hX hC; subst hX
  show gG X d b _ F 0 0 0 [some (.ref (gO' Y 7))] []
  have hM0 : gSm S S [] [] := gSm.rf
  have hK0 : gKp Y F F := gKp.rf
  refine g_aload_n hC dX5_fuelLeft_0 rfl ?_
  refine g_get hC fl_X5_48 (hW.o 7 (by decide)) rfl dX5_fuelLeft_1 ?_
  exact g_iret hC rfl ⟨rfl, rfl⟩ (by first | exact Nat.le_of_ble_eq_true rfl | omega | (simp only [gR]; omega)) (by first | exact Nat.le_of_ble_eq_true rfl | omega | (simp only [gR]; omega)) dX5_fuelLeft_4
theorem dX11_fault_0 : decode cX11_fault 0 = .ok (.aload_n 0, 1) := by decide +kernel
theorem dX11_fault_1 : decode cX11_fault 1 = .ok (.getfield 21, 3) := by decide +kernel
theorem dX11_fault_4 : decode cX11_fault 4 = .ok (.invokevirtual 114, 3) := by decide +kernel
theorem dX11_fault_7 : decode cX11_fault 7 = .ok (.ireturn, 1) := by decide +kernel
set_option maxHeartbeats 4000000 in
set_option maxRecDepth 100000 in
theorem c_W_fault (l : Launch) (d : gD) (b : Nat) (Y : gYt) (F : gM) (S : gSt) (hW : gWT d Y F S)  : gMi l d b yX11_fault cX11_fault 1 .int 2 0 0 F [.ref (gO' Y 0)] (fun r F' => r = sV S 4 ∧ F' = F) := by
  refine gM_of2 rfl (nL := 1) (Nat.le_of_ble_eq_true rfl) ?_
  intro X hX hC; subst hX
  show gG X d b _ F 0 0 0 [some (.ref (gO' Y 0))] []
  have hM0 : gSm S S [] [] := gSm.rf
  have hK0 : gKp Y F F := gKp.rf
  refine g_aload_n hC dX11_fault_0 rfl ?_
  refine g_get hC fl_X11_21 (hW.o 0 (by decide)) rfl dX11_fault_1 ?_
  refine g_callVi (As := []) hC rfl (hW.o 1 (by decide)) (c_P_kind X.la d b Y F S hW ) cl_X11_114 rfl rfl (Nat.le_of_ble_eq_true rfl) (gFit_of (Nat.le_of_ble_eq_true rfl) (Nat.le_of_ble_eq_true rfl) (by first | exact Nat.le_of_ble_eq_true rfl | omega | (simp only [gR]; omega)) (by first | exact Nat.le_of_ble_eq_true rfl | omega | (simp only [gR]; omega))) dX11_fault_4 (fun r3 F1 p2 => ?_)
  obtain ⟨rfl, eF1⟩ := p2; have eF1 := eF1.symm; subst eF1
  exact g_iret hC rfl ⟨rfl, rfl⟩ (by first | exact Nat.le_of_ble_eq_true rfl | omega | (simp only [gR]; omega)) (by first | exact Nat.le_of_ble_eq_true rfl | omega | (simp only [gR]; omega)) dX11_fault_7
theorem dX11_value_0 : decode cX11_value 0 = .ok (.aload_n 0, 1) := by decide +kernel
theorem dX11_value_1 : decode cX11_value 1 = .ok (.getfield 71, 3) := by decide +kernel
theorem dX11_value_4 : decode cX11_value 4 = .ok (.invokevirtual 141, 3) := by decide +kernel
theorem dX11_value_7 : decode cX11_value 7 = .ok (.ireturn, 1) := by decide +kernel
set_option maxHeartbeats 4000000 in
set_option maxRecDepth 100000 in
theorem c_W_value (l : Launch) (d : gD) (b : Nat) (Y : gYt) (F : gM) (S : gSt) (hW : gWT d Y F S)  : gMi l d b yX11_value cX11_value 1 .int 2 0 0 F [.ref (gO' Y 0)] (fun r F' => r = sV S 32 ∧ F' = F) := by
  refine gM_of2 rfl (nL := 1) (Nat.le_of_ble_eq_true rfl) ?_
  intro X hX hC; subst hX
  show gG X d b _ F 0 0 0 [some (.ref (gO' Y 0))] []
  have hM0 : gSm S S [] [] := gSm.rf
  have hK0 : gKp Y F F := gKp.rf
  refine g_aload_n hC dX11_value_0 rfl ?_
  refine g_get hC fl_X11_71 (hW.o 0 (by decide)) rfl dX11_value_1 ?_
  refine g_callVi (As := []) hC rfl (hW.o 7 (by decide)) (c_M_told X.la d b Y F S hW ) cl_X11_141 rfl rfl (Nat.le_of_ble_eq_true rfl) (gFit_of (Nat.le_of_ble_eq_true rfl) (Nat.le_of_ble_eq_true rfl) (by first | exact Nat.le_of_ble_eq_true rfl | omega | (simp only [gR]; omega)) (by first | exact Nat.le_of_ble_eq_true rfl | omega | (simp only [gR]; omega))) dX11_value_4 (fun r3 F1 p2 => ?_)
  obtain ⟨rfl, eF1⟩ := p2; have eF1 := eF1.symm; subst eF1
  exact g_iret hC rfl ⟨rfl, rfl⟩ (by first | exact Nat.le_of_ble_eq_true rfl | omega | (simp only [gR]; omega)) (by first | exact Nat.le_of_ble_eq_true rfl | omega | (simp only [gR]; omega)) dX11_value_7
theorem dX11_fuel_0 : decode cX11_fuel 0 = .ok (.aload_n 0, 1) := by decide +kernel
theorem dX11_fuel_1 : decode cX11_fuel 1 = .ok (.getfield 71, 3) := by decide +kernel
theorem dX11_fuel_4 : decode cX11_fuel 4 = .ok (.invokevirtual 157, 3) := by decide +kernel
theorem dX11_fuel_7 : decode cX11_fuel 7 = .ok (.ireturn, 1) := by decide +kernel
set_option maxHeartbeats 4000000 in
set_option maxRecDepth 100000 in
theorem c_W_fuel (l : Launch) (d : gD) (b : Nat) (Y : gYt) (F : gM) (S : gSt) (hW : gWT d Y F S)  : gMi l d b yX11_fuel cX11_fuel 1 .int 2 0 0 F [.ref (gO' Y 0)] (fun r F' => r = sV S 31 ∧ F' = F) := by
  refine gM_of2 rfl (nL := 1) (Nat.le_of_ble_eq_true rfl) ?_
  intro X hX hC; subst hX
  show gG X d b _ F 0 0 0 [some (.ref (gO' Y 0))] []
  have hM0 : gSm S S [] [] := gSm.rf
  have hK0 : gKp Y F F := gKp.rf
  refine g_aload_n hC dX11_fuel_0 rfl ?_
  refine g_get hC fl_X11_71 (hW.o 0 (by decide)) rfl dX11_fuel_1 ?_
  refine g_callVi (As := []) hC rfl (hW.o 7 (by decide)) (c_M_left X.la d b Y F S hW ) cl_X11_157 rfl rfl (Nat.le_of_ble_eq_true rfl) (gFit_of (Nat.le_of_ble_eq_true rfl) (Nat.le_of_ble_eq_true rfl) (by first | exact Nat.le_of_ble_eq_true rfl | omega | (simp only [gR]; omega)) (by first | exact Nat.le_of_ble_eq_true rfl | omega | (simp only [gR]; omega))) dX11_fuel_4 (fun r3 F1 p2 => ?_)
  obtain ⟨rfl, eF1⟩ := p2; have eF1 := eF1.symm; subst eF1
  exact g_iret hC rfl ⟨rfl, rfl⟩ (by first | exact Nat.le_of_ble_eq_true rfl | omega | (simp only [gR]; omega)) (by first | exact Nat.le_of_ble_eq_true rfl | omega | (simp only [gR]; omega)) dX11_fuel_7
theorem dX11_run_0 : decode cX11_run 0 = .ok (.aload_n 0, 1) := by decide +kernel
theorem dX11_run_1 : decode cX11_run 1 = .ok (.getfield 21, 3) := by decide +kernel
theorem dX11_run_4 : decode cX11_run 4 = .ok (.invokevirtual 134, 3) := by decide +kernel
theorem dX11_run_7 : decode cX11_run 7 = .ok (.ifCond .eq 13, 3) := by decide +kernel
theorem dX11_run_10 : decode cX11_run 10 = .ok (.iload_n 1, 1) := by decide +kernel
theorem dX11_run_11 : decode cX11_run 11 = .ok (.ifCond .lt 9, 3) := by decide +kernel
theorem dX11_run_14 : decode cX11_run 14 = .ok (.iload_n 1, 1) := by decide +kernel
theorem dX11_run_15 : decode cX11_run 15 = .ok (.ldc 137, 2) := by decide +kernel
theorem dX11_run_17 : decode cX11_run 17 = .ok (.if_icmp .le 5, 3) := by decide +kernel
theorem dX11_run_20 : decode cX11_run 20 = .ok (.iconst (-1), 1) := by decide +kernel
theorem dX11_run_21 : decode cX11_run 21 = .ok (.ireturn, 1) := by decide +kernel
theorem dX11_run_22 : decode cX11_run 22 = .ok (.aload_n 0, 1) := by decide +kernel
theorem dX11_run_23 : decode cX11_run 23 = .ok (.getfield 71, 3) := by decide +kernel
theorem dX11_run_26 : decode cX11_run 26 = .ok (.iload_n 1, 1) := by decide +kernel
theorem dX11_run_27 : decode cX11_run 27 = .ok (.invokevirtual 138, 3) := by decide +kernel
theorem dX11_run_30 : decode cX11_run 30 = .ok (.ireturn, 1) := by decide +kernel
set_option maxHeartbeats 4000000 in
set_option maxRecDepth 100000 in
theorem c_W_run0 (l : Launch) (d : gD) (b : Nat) (Y : gYt) (F : gM) (S : gSt) (hW : gWT d Y F S) (hv6 : sV S 6 = 0) (i : Int32) : gMi l d b yX11_run cX11_run 2 .int 2 0 0 F [.ref (gO' Y 0), .int i] (fun r F' => r = (-1) ∧ F' = F) := by
  refine gM_of2 rfl (nL := 2) (Nat.le_of_ble_eq_true rfl) ?_
  intro X hX hC; subst hX
  show gG X d b _ F 0 0 0 [some (.ref (gO' Y 0)), some (.int i)] []
  have hM0 : gSm S S [] [] := gSm.rf
  have hK0 : gKp Y F F := gKp.rf
  refine g_aload_n hC dX11_run_0 rfl ?_
  refine g_get hC fl_X11_21 (hW.o 0 (by decide)) rfl dX11_run_1 ?_
  refine g_callVi (As := []) hC rfl (hW.o 1 (by decide)) (c_P_ready X.la d b Y F S hW ) cl_X11_134 rfl rfl (Nat.le_of_ble_eq_true rfl) (gFit_of (Nat.le_of_ble_eq_true rfl) (Nat.le_of_ble_eq_true rfl) (by first | exact Nat.le_of_ble_eq_true rfl | omega | (simp only [gR]; omega)) (by first | exact Nat.le_of_ble_eq_true rfl | omega | (simp only [gR]; omega))) dX11_run_4 (fun r3 F1 p2 => ?_)
  obtain ⟨rfl, eF1⟩ := p2; have eF1 := eF1.symm; subst eF1
  refine g_if_eq (tgt := 20) hC dX11_run_7 (by decide) (fun c4 => ?_) (fun c4 => ?_)
  · refine g_iconst (v := (-1)) hC dX11_run_20 rfl ?_
    exact g_iret hC rfl ⟨rfl, rfl⟩ (by first | exact Nat.le_of_ble_eq_true rfl | omega | (simp only [gR]; omega)) (by first | exact Nat.le_of_ble_eq_true rfl | omega | (simp only [gR]; omega)) dX11_run_21
  · exact absurd hv6 c4
theorem gend {i : Int32} {n z : Nat} (h1 : ¬ i < 0) (h2 : i ≤ nI n) (hn : n < 2 ^ 31) (a : ¬ i < 0 ∧ i.toNatClampNeg < n → z = i.toNatClampNeg) (b : i < 0 ∨ nI n ≤ i → z = n) : z = i.toNatClampNeg := by
  obtain ⟨j, hj, rfl⟩ := nI_of h1
  rw [nI_clamp hj] at a ⊢
  have h3 : j ≤ n := (nI_leI hj hn).mp h2
  by_cases c : j < n
  · exact a ⟨h1, c⟩
  · rw [b (Or.inr (nI_le (by omega) hj))]
    omega
theorem dX11_end_0 : decode cX11_end 0 = .ok (.iload_n 1, 1) := by decide +kernel
theorem dX11_end_1 : decode cX11_end 1 = .ok (.ifCond .lt 14, 3) := by decide +kernel
theorem dX11_end_4 : decode cX11_end 4 = .ok (.iload_n 1, 1) := by decide +kernel
theorem dX11_end_5 : decode cX11_end 5 = .ok (.aload_n 0, 1) := by decide +kernel
theorem dX11_end_6 : decode cX11_end 6 = .ok (.getfield 14, 3) := by decide +kernel
theorem dX11_end_9 : decode cX11_end 9 = .ok (.invokevirtual 82, 3) := by decide +kernel
theorem dX11_end_12 : decode cX11_end 12 = .ok (.if_icmp .le 5, 3) := by decide +kernel
theorem dX11_end_15 : decode cX11_end 15 = .ok (.iconst 0, 1) := by decide +kernel
theorem dX11_end_16 : decode cX11_end 16 = .ok (.ireturn, 1) := by decide +kernel
theorem dX11_end_17 : decode cX11_end 17 = .ok (.aload_n 0, 1) := by decide +kernel
theorem dX11_end_18 : decode cX11_end 18 = .ok (.getfield 14, 3) := by decide +kernel
theorem dX11_end_21 : decode cX11_end 21 = .ok (.iload_n 1, 1) := by decide +kernel
theorem dX11_end_22 : decode cX11_end 22 = .ok (.invokevirtual 92, 3) := by decide +kernel
theorem dX11_end_25 : decode cX11_end 25 = .ok (.iconst 1, 1) := by decide +kernel
theorem dX11_end_26 : decode cX11_end 26 = .ok (.ireturn, 1) := by decide +kernel
set_option maxHeartbeats 4000000 in
set_option maxRecDepth 100000 in
theorem c_W_end (l : Launch) (d : gD) (b : Nat) (Y : gYt) (F : gM) (S : gSt) (hW : gWT d Y F S) (i : Int32) : gMi l d b yX11_end cX11_end 2 .boolean 2 0 0 F [.ref (gO' Y 0), .int i] (fun r F' => (i < 0 ∨ ¬ i ≤ nI (sZ S 0) → r = 0 ∧ ∃ S', gWT d Y F' S' ∧ gKp Y F F' ∧ gSm S S' [0] [] ∧ S' = S) ∧ (¬ i < 0 ∧ i ≤ nI (sZ S 0) → r = 1 ∧ ∃ S', gWT d Y F' S' ∧ gKp Y F F' ∧ gSm S S' [0] [] ∧ sZ S' 0 = i.toNatClampNeg)) := by
  refine gM_of2 rfl (nL := 2) (Nat.le_of_ble_eq_true rfl) ?_
  intro X hX hC; subst hX
  show gG X d b _ F 0 0 0 [some (.ref (gO' Y 0)), some (.int i)] []
  have hM0 : gSm S S [0] [] := gSm.rf
  have hK0 : gKp Y F F := gKp.rf
  refine g_iload_n hC dX11_end_0 rfl ?_
  refine g_if_lt (tgt := 15) hC dX11_end_1 (by decide) (fun c1 => ?_) (fun c1 => ?_)
  · refine g_iconst (v := 0) hC dX11_end_15 rfl ?_
    exact g_iret hC rfl ⟨fun _ => ⟨rfl, S, hW, gKp.rf, gSm.rf, rfl⟩, fun z => absurd c1 z.1⟩ (by first | exact Nat.le_of_ble_eq_true rfl | omega | (simp only [gR]; omega)) (by first | exact Nat.le_of_ble_eq_true rfl | omega | (simp only [gR]; omega)) dX11_end_16
  · refine g_iload_n hC dX11_end_4 rfl ?_
    refine g_aload_n hC dX11_end_5 rfl ?_
    refine g_get hC fl_X11_14 (hW.o 0 (by decide)) rfl dX11_end_6 ?_
    refine g_callVi (As := []) hC rfl (hW.r 0 (by decide)).1 (c_Ints_size X.la d b F _ _ _ _ _ _ (hW.r 0 (by decide))) cl_X11_82 rfl rfl (Nat.le_of_ble_eq_true rfl) (gFit_of (Nat.le_of_ble_eq_true rfl) (Nat.le_of_ble_eq_true rfl) (by first | exact Nat.le_of_ble_eq_true rfl | omega | (simp only [gR]; omega)) (by first | exact Nat.le_of_ble_eq_true rfl | omega | (simp only [gR]; omega))) dX11_end_9 (fun r2 F3 p4 => ?_)
    obtain ⟨rfl, eF3⟩ := p4; have eF3 := eF3.symm; subst eF3
    refine g_icmp_le (tgt := 17) hC dX11_end_12 (by decide) (fun c5 => ?_) (fun c5 => ?_)
    · refine g_aload_n hC dX11_end_17 rfl ?_
      refine g_get hC fl_X11_14 (hW.o 0 (by decide)) rfl dX11_end_18 ?_
      refine g_iload_n hC dX11_end_21 rfl ?_
      refine g_callVv (As := [.int i]) hC rfl (hW.r 0 (by decide)).1 (c_Ints_cut X.la d b F _ _ _ _ _ _ (hW.r 0 (by decide)) i) cl_X11_92 rfl rfl (Nat.le_of_ble_eq_true rfl) (gFit_of (Nat.le_of_ble_eq_true rfl) (Nat.le_of_ble_eq_true rfl) (by first | exact Nat.le_of_ble_eq_true rfl | omega | (simp only [gR]; omega)) (by first | exact Nat.le_of_ble_eq_true rfl | omega | (simp only [gR]; omega))) dX11_end_22 (fun F7 p8 => ?_)
      obtain ⟨S9, hW10, k11, s12, u13, u14, u15, u16, u17⟩ := wt_cut hW (by decide) p8
      have hM18 : gSm S S9 [0] [] := hM0.tr s12 _ _ rfl rfl
      have hK19 : gKp Y F F7 := hK0.tr k11
      have hz : sZ S9 0 = i.toNatClampNeg := gend c1 c5 (Nat.lt_of_le_of_lt (hW.r 0 (by decide)).2.2.1 (Nat.lt_of_le_of_lt (hW.r 0 (by decide)).2.2.2.2.1 (by decide))) u15 u16
      refine g_iconst (v := 1) hC dX11_end_25 rfl ?_
      exact g_iret hC rfl ⟨fun z => absurd z (fun z => z.elim c1 (fun z => z c5)), fun _ => ⟨rfl, S9, hW10, hK19, hM18, hz⟩⟩ (by first | exact Nat.le_of_ble_eq_true rfl | omega | (simp only [gR]; omega)) (by first | exact Nat.le_of_ble_eq_true rfl | omega | (simp only [gR]; omega)) dX11_end_26
    · refine g_iconst (v := 0) hC dX11_end_15 rfl ?_
      exact g_iret hC rfl ⟨fun _ => ⟨rfl, S, hW, gKp.rf, gSm.rf, rfl⟩, fun z => absurd z.2 c5⟩ (by first | exact Nat.le_of_ble_eq_true rfl | omega | (simp only [gR]; omega)) (by first | exact Nat.le_of_ble_eq_true rfl | omega | (simp only [gR]; omega)) dX11_end_16
theorem dX0_isInput_0 : decode cX0_isInput 0 = .ok (.iload_n 1, 1) := by decide +kernel
theorem dX0_isInput_1 : decode cX0_isInput 1 = .ok (.ifCond .lt 25, 3) := by decide +kernel
theorem dX0_isInput_4 : decode cX0_isInput 4 = .ok (.iload_n 1, 1) := by decide +kernel
theorem dX0_isInput_5 : decode cX0_isInput 5 = .ok (.aload_n 0, 1) := by decide +kernel
theorem dX0_isInput_6 : decode cX0_isInput 6 = .ok (.getfield 14, 3) := by decide +kernel
theorem dX0_isInput_9 : decode cX0_isInput 9 = .ok (.arraylength, 1) := by decide +kernel
theorem dX0_isInput_10 : decode cX0_isInput 10 = .ok (.if_icmp .ge 16, 3) := by decide +kernel
theorem dX0_isInput_13 : decode cX0_isInput 13 = .ok (.iload_n 1, 1) := by decide +kernel
theorem dX0_isInput_14 : decode cX0_isInput 14 = .ok (.aload_n 0, 1) := by decide +kernel
theorem dX0_isInput_15 : decode cX0_isInput 15 = .ok (.getfield 20, 3) := by decide +kernel
theorem dX0_isInput_18 : decode cX0_isInput 18 = .ok (.arraylength, 1) := by decide +kernel
theorem dX0_isInput_19 : decode cX0_isInput 19 = .ok (.if_icmp .ge 7, 3) := by decide +kernel
theorem dX0_isInput_22 : decode cX0_isInput 22 = .ok (.iconst 1, 1) := by decide +kernel
theorem dX0_isInput_23 : decode cX0_isInput 23 = .ok (.goto 4, 3) := by decide +kernel
theorem dX0_isInput_26 : decode cX0_isInput 26 = .ok (.iconst 0, 1) := by decide +kernel
theorem dX0_isInput_27 : decode cX0_isInput 27 = .ok (.ireturn, 1) := by decide +kernel
set_option maxHeartbeats 4000000 in
set_option maxRecDepth 100000 in
theorem c_C_isInput (l : Launch) (d : gD) (b : Nat) (Y : gYt) (F : gM) (S : gSt) (hW : gWT d Y F S) (i : Int32) : gMi l d b yX0_isInput cX0_isInput 2 .boolean 0 0 0 F [.ref (gO' Y 6), .int i] (fun r F' => (i < 0 ∨ nI 4 ≤ i → r = 0) ∧ (¬ i < 0 ∧ ¬ nI 4 ≤ i → r = 1) ∧ F' = F) := by
  refine gM_of2 rfl (nL := 2) (Nat.le_of_ble_eq_true rfl) ?_
  intro X hX hC; subst hX
  show gG X d b _ F 0 0 0 [some (.ref (gO' Y 6)), some (.int i)] []
  obtain ⟨⟨fI, hI, hI2⟩, fO, hO, hO2⟩ := id hW.2.2.2.1
  have hM0 : gSm S S [] [] := gSm.rf
  have hK0 : gKp Y F F := gKp.rf
  refine g_iload_n hC dX0_isInput_0 rfl ?_
  refine g_if_lt (tgt := 26) hC dX0_isInput_1 (by decide) (fun c1 => ?_) (fun c1 => ?_)
  · refine g_iconst (v := 0) hC dX0_isInput_26 rfl ?_
    exact g_iret hC rfl ⟨fun _ => rfl, fun z => absurd c1 z.1, rfl⟩ (by first | exact Nat.le_of_ble_eq_true rfl | omega | (simp only [gR]; omega)) (by first | exact Nat.le_of_ble_eq_true rfl | omega | (simp only [gR]; omega)) dX0_isInput_27
  · refine g_iload_n hC dX0_isInput_4 rfl ?_
    refine g_aload_n hC dX0_isInput_5 rfl ?_
    refine g_get hC fl_X0_14 (hW.o 6 (by decide)) rfl dX0_isInput_6 ?_
    refine g_alen hC 4 hI rfl dX0_isInput_9 ?_
    refine g_icmp_ge (tgt := 26) hC dX0_isInput_10 (by decide) (fun c2 => ?_) (fun c2 => ?_)
    · refine g_iconst (v := 0) hC dX0_isInput_26 rfl ?_
      exact g_iret hC rfl ⟨fun _ => rfl, fun z => absurd c2 z.2, rfl⟩ (by first | exact Nat.le_of_ble_eq_true rfl | omega | (simp only [gR]; omega)) (by first | exact Nat.le_of_ble_eq_true rfl | omega | (simp only [gR]; omega)) dX0_isInput_27
    · refine g_iload_n hC dX0_isInput_13 rfl ?_
      refine g_aload_n hC dX0_isInput_14 rfl ?_
      refine g_get hC fl_X0_20 (hW.o 6 (by decide)) rfl dX0_isInput_15 ?_
      refine g_alen hC 0 hW.p rfl dX0_isInput_18 ?_
      refine g_icmp_ge (tgt := 26) hC dX0_isInput_19 (by decide) (fun c3 => ?_) (fun c3 => ?_)
      · exact absurd c3 c2
      · refine g_iconst (v := 1) hC dX0_isInput_22 rfl ?_
        refine g_goto (tgt := 27) hC dX0_isInput_23 (by decide) ?_
        exact g_iret hC rfl ⟨fun z => absurd z (fun z => z.elim c1 c2), fun _ => rfl, rfl⟩ (by first | exact Nat.le_of_ble_eq_true rfl | omega | (simp only [gR]; omega)) (by first | exact Nat.le_of_ble_eq_true rfl | omega | (simp only [gR]; omega)) dX0_isInput_27
theorem dX0_isOutput_0 : decode cX0_isOutput 0 = .ok (.iload_n 1, 1) := by decide +kernel
theorem dX0_isOutput_1 : decode cX0_isOutput 1 = .ok (.ifCond .lt 16, 3) := by decide +kernel
theorem dX0_isOutput_4 : decode cX0_isOutput 4 = .ok (.iload_n 1, 1) := by decide +kernel
theorem dX0_isOutput_5 : decode cX0_isOutput 5 = .ok (.aload_n 0, 1) := by decide +kernel
theorem dX0_isOutput_6 : decode cX0_isOutput 6 = .ok (.getfield 24, 3) := by decide +kernel
theorem dX0_isOutput_9 : decode cX0_isOutput 9 = .ok (.arraylength, 1) := by decide +kernel
theorem dX0_isOutput_10 : decode cX0_isOutput 10 = .ok (.if_icmp .ge 7, 3) := by decide +kernel
theorem dX0_isOutput_13 : decode cX0_isOutput 13 = .ok (.iconst 1, 1) := by decide +kernel
theorem dX0_isOutput_14 : decode cX0_isOutput 14 = .ok (.goto 4, 3) := by decide +kernel
theorem dX0_isOutput_17 : decode cX0_isOutput 17 = .ok (.iconst 0, 1) := by decide +kernel
theorem dX0_isOutput_18 : decode cX0_isOutput 18 = .ok (.ireturn, 1) := by decide +kernel
set_option maxHeartbeats 4000000 in
set_option maxRecDepth 100000 in
theorem c_C_isOutput (l : Launch) (d : gD) (b : Nat) (Y : gYt) (F : gM) (S : gSt) (hW : gWT d Y F S) (i : Int32) : gMi l d b yX0_isOutput cX0_isOutput 2 .boolean 0 0 0 F [.ref (gO' Y 6), .int i] (fun r F' => (i < 0 ∨ nI 2 ≤ i → r = 0) ∧ (¬ i < 0 ∧ ¬ nI 2 ≤ i → r = 1) ∧ F' = F) := by
  refine gM_of2 rfl (nL := 2) (Nat.le_of_ble_eq_true rfl) ?_
  intro X hX hC; subst hX
  show gG X d b _ F 0 0 0 [some (.ref (gO' Y 6)), some (.int i)] []
  obtain ⟨⟨fI, hI, hI2⟩, fO, hO, hO2⟩ := id hW.2.2.2.1
  have hM0 : gSm S S [] [] := gSm.rf
  have hK0 : gKp Y F F := gKp.rf
  refine g_iload_n hC dX0_isOutput_0 rfl ?_
  refine g_if_lt (tgt := 17) hC dX0_isOutput_1 (by decide) (fun c1 => ?_) (fun c1 => ?_)
  · refine g_iconst (v := 0) hC dX0_isOutput_17 rfl ?_
    exact g_iret hC rfl ⟨fun _ => rfl, fun z => absurd c1 z.1, rfl⟩ (by first | exact Nat.le_of_ble_eq_true rfl | omega | (simp only [gR]; omega)) (by first | exact Nat.le_of_ble_eq_true rfl | omega | (simp only [gR]; omega)) dX0_isOutput_18
  · refine g_iload_n hC dX0_isOutput_4 rfl ?_
    refine g_aload_n hC dX0_isOutput_5 rfl ?_
    refine g_get hC fl_X0_24 (hW.o 6 (by decide)) rfl dX0_isOutput_6 ?_
    refine g_alen hC 4 hO rfl dX0_isOutput_9 ?_
    refine g_icmp_ge (tgt := 17) hC dX0_isOutput_10 (by decide) (fun c2 => ?_) (fun c2 => ?_)
    · refine g_iconst (v := 0) hC dX0_isOutput_17 rfl ?_
      exact g_iret hC rfl ⟨fun _ => rfl, fun z => absurd c2 z.2, rfl⟩ (by first | exact Nat.le_of_ble_eq_true rfl | omega | (simp only [gR]; omega)) (by first | exact Nat.le_of_ble_eq_true rfl | omega | (simp only [gR]; omega)) dX0_isOutput_18
    · refine g_iconst (v := 1) hC dX0_isOutput_13 rfl ?_
      refine g_goto (tgt := 18) hC dX0_isOutput_14 (by decide) ?_
      exact g_iret hC rfl ⟨fun z => absurd z (fun z => z.elim c1 c2), fun _ => rfl, rfl⟩ (by first | exact Nat.le_of_ble_eq_true rfl | omega | (simp only [gR]; omega)) (by first | exact Nat.le_of_ble_eq_true rfl | omega | (simp only [gR]; omega)) dX0_isOutput_18
theorem dX0_length_0 : decode cX0_length 0 = .ok (.aload_n 0, 1) := by decide +kernel
theorem dX0_length_1 : decode cX0_length 1 = .ok (.iload_n 1, 1) := by decide +kernel
theorem dX0_length_2 : decode cX0_length 2 = .ok (.invokevirtual 46, 3) := by decide +kernel
theorem dX0_length_5 : decode cX0_length 5 = .ok (.ifCond .eq 15, 3) := by decide +kernel
theorem dX0_length_8 : decode cX0_length 8 = .ok (.aload_n 0, 1) := by decide +kernel
theorem dX0_length_9 : decode cX0_length 9 = .ok (.getfield 24, 3) := by decide +kernel
theorem dX0_length_12 : decode cX0_length 12 = .ok (.iload_n 1, 1) := by decide +kernel
theorem dX0_length_13 : decode cX0_length 13 = .ok (.aaload, 1) := by decide +kernel
theorem dX0_length_14 : decode cX0_length 14 = .ok (.invokevirtual 42, 3) := by decide +kernel
theorem dX0_length_17 : decode cX0_length 17 = .ok (.goto 4, 3) := by decide +kernel
theorem dX0_length_20 : decode cX0_length 20 = .ok (.iconst (-1), 1) := by decide +kernel
theorem dX0_length_21 : decode cX0_length 21 = .ok (.ireturn, 1) := by decide +kernel
set_option maxHeartbeats 4000000 in
set_option maxRecDepth 100000 in
theorem c_C_length (l : Launch) (d : gD) (b : Nat) (Y : gYt) (F : gM) (S : gSt) (hW : gWT d Y F S) (i : Int32) : gMi l d b yX0_length cX0_length 2 .int 1 0 0 F [.ref (gO' Y 6), .int i] (fun r F' => (i < 0 ∨ nI 2 ≤ i → r = (-1)) ∧ (∀ j, j < 2 → i = nI j → r = nI (sZ S (38 + j))) ∧ F' = F) := by
  refine gM_of2 rfl (nL := 2) (Nat.le_of_ble_eq_true rfl) ?_
  intro X hX hC; subst hX
  show gG X d b _ F 0 0 0 [some (.ref (gO' Y 6)), some (.int i)] []
  obtain ⟨⟨fI, hI, hI2⟩, fO, hO, hO2⟩ := id hW.2.2.2.1
  have hM0 : gSm S S [] [] := gSm.rf
  have hK0 : gKp Y F F := gKp.rf
  refine g_aload_n hC dX0_length_0 rfl ?_
  refine g_iload_n hC dX0_length_1 rfl ?_
  refine g_callVi (As := [.int i]) hC rfl (hW.o 6 (by decide)) (c_C_isOutput X.la d b Y F S hW i) cl_X0_46 rfl rfl (Nat.le_of_ble_eq_true rfl) (gFit_of (Nat.le_of_ble_eq_true rfl) (Nat.le_of_ble_eq_true rfl) (by first | exact Nat.le_of_ble_eq_true rfl | omega | (simp only [gR]; omega)) (by first | exact Nat.le_of_ble_eq_true rfl | omega | (simp only [gR]; omega))) dX0_length_2 (fun r3 F1 p2 => ?_)
  obtain ⟨ar3, br3, er3⟩ := p2; have er3 := er3.symm; subst er3
  refine g_if_eq (tgt := 20) hC dX0_length_5 (by decide) (fun c4 => ?_) (fun c4 => ?_)
  · have hno : i < 0 ∨ nI 2 ≤ i := Classical.byContradiction fun z => by
      rw [br3 ⟨fun q => z (Or.inl q), fun q => z (Or.inr q)⟩] at c4
      exact absurd c4 (by decide)
    refine g_iconst (v := (-1)) hC dX0_length_20 rfl ?_
    exact g_iret hC rfl ⟨fun _ => rfl, fun j hj e => by rw [e] at hno; exact absurd hno (fun z => z.elim (nI_pos (by omega)) (fun z => absurd ((nI_leI (by omega) (by omega)).mp z) (by omega))), rfl⟩ (by first | exact Nat.le_of_ble_eq_true rfl | omega | (simp only [gR]; omega)) (by first | exact Nat.le_of_ble_eq_true rfl | omega | (simp only [gR]; omega)) dX0_length_21
  · have hc1 : ¬ i < 0 := fun q => c4 (ar3 (Or.inl q))
    have hc2 : ¬ nI 2 ≤ i := fun q => c4 (ar3 (Or.inr q))
    obtain ⟨j, hj, rfl⟩ : ∃ j : Nat, j < 2 ∧ i = nI j := by
      obtain ⟨j, hj, rfl⟩ := nI_of hc1
      exact ⟨j, Nat.not_le.mp (fun q => hc2 (nI_le q hj)), rfl⟩
    refine g_aload_n hC dX0_length_8 rfl ?_
    refine g_get hC fl_X0_24 (hW.o 6 (by decide)) rfl dX0_length_9 ?_
    refine g_iload_n hC dX0_length_12 rfl ?_
    refine g_aald hC hO (vp_in_nI hj (by decide)) dX0_length_13 ?_
    rw [nI_clamp (by omega), hO2 j hj]
    refine g_callVi (As := []) hC rfl (hW.r (38 + j) (by omega)).1 (c_Ints_size X.la d b F _ _ _ _ _ _ (hW.r (38 + j) (by omega))) cl_X0_42 rfl rfl (Nat.le_of_ble_eq_true rfl) (gFit_of (Nat.le_of_ble_eq_true rfl) (Nat.le_of_ble_eq_true rfl) (by first | exact Nat.le_of_ble_eq_true rfl | omega | (simp only [gR]; omega)) (by first | exact Nat.le_of_ble_eq_true rfl | omega | (simp only [gR]; omega))) dX0_length_14 (fun r5 F6 p7 => ?_)
    obtain ⟨rfl, eF6⟩ := p7; have eF6 := eF6.symm; subst eF6
    refine g_goto (tgt := 21) hC dX0_length_17 (by decide) ?_
    exact g_iret hC rfl ⟨fun z => absurd z (fun z => z.elim hc1 hc2), fun j2 hj2 e => by rw [(nI_eq (by omega) (by omega)).mp e], rfl⟩ (by first | exact Nat.le_of_ble_eq_true rfl | omega | (simp only [gR]; omega)) (by first | exact Nat.le_of_ble_eq_true rfl | omega | (simp only [gR]; omega)) dX0_length_21
theorem dX11_out_0 : decode cX11_out 0 = .ok (.aload_n 0, 1) := by decide +kernel
theorem dX11_out_1 : decode cX11_out 1 = .ok (.getfield 62, 3) := by decide +kernel
theorem dX11_out_4 : decode cX11_out 4 = .ok (.iload_n 1, 1) := by decide +kernel
theorem dX11_out_5 : decode cX11_out 5 = .ok (.invokevirtual 144, 3) := by decide +kernel
theorem dX11_out_8 : decode cX11_out 8 = .ok (.ireturn, 1) := by decide +kernel
set_option maxHeartbeats 4000000 in
set_option maxRecDepth 100000 in
theorem c_W_out (l : Launch) (d : gD) (b : Nat) (Y : gYt) (F : gM) (S : gSt) (hW : gWT d Y F S) (i : Int32) : gMi l d b yX11_out cX11_out 2 .int 2 0 0 F [.ref (gO' Y 0), .int i] (fun r F' => (i < 0 ∨ nI 2 ≤ i → r = (-1)) ∧ (∀ j, j < 2 → i = nI j → r = nI (sZ S (38 + j))) ∧ F' = F) := by
  refine gM_of2 rfl (nL := 2) (Nat.le_of_ble_eq_true rfl) ?_
  intro X hX hC; subst hX
  show gG X d b _ F 0 0 0 [some (.ref (gO' Y 0)), some (.int i)] []
  have hM0 : gSm S S [] [] := gSm.rf
  have hK0 : gKp Y F F := gKp.rf
  refine g_aload_n hC dX11_out_0 rfl ?_
  refine g_get hC fl_X11_62 (hW.o 0 (by decide)) rfl dX11_out_1 ?_
  refine g_iload_n hC dX11_out_4 rfl ?_
  refine g_callVi (As := [.int i]) hC rfl (hW.o 6 (by decide)) (c_C_length X.la d b Y F S hW i) cl_X11_144 rfl rfl (Nat.le_of_ble_eq_true rfl) (gFit_of (Nat.le_of_ble_eq_true rfl) (Nat.le_of_ble_eq_true rfl) (by first | exact Nat.le_of_ble_eq_true rfl | omega | (simp only [gR]; omega)) (by first | exact Nat.le_of_ble_eq_true rfl | omega | (simp only [gR]; omega))) dX11_out_5 (fun r3 F1 p2 => ?_)
  obtain ⟨ar3, br3, er3⟩ := p2; have er3 := er3.symm; subst er3
  exact g_iret hC rfl ⟨ar3, br3, rfl⟩ (by first | exact Nat.le_of_ble_eq_true rfl | omega | (simp only [gR]; omega)) (by first | exact Nat.le_of_ble_eq_true rfl | omega | (simp only [gR]; omega)) dX11_out_8
theorem dX5_isThere_0 : decode cX5_isThere 0 = .ok (.iload_n 1, 1) := by decide +kernel
theorem dX5_isThere_1 : decode cX5_isThere 1 = .ok (.ifCond .lt 24, 3) := by decide +kernel
theorem dX5_isThere_4 : decode cX5_isThere 4 = .ok (.iload_n 1, 1) := by decide +kernel
theorem dX5_isThere_5 : decode cX5_isThere 5 = .ok (.aload_n 0, 1) := by decide +kernel
theorem dX5_isThere_6 : decode cX5_isThere 6 = .ok (.getfield 35, 3) := by decide +kernel
theorem dX5_isThere_9 : decode cX5_isThere 9 = .ok (.if_icmp .ge 16, 3) := by decide +kernel
theorem dX5_isThere_12 : decode cX5_isThere 12 = .ok (.iload_n 1, 1) := by decide +kernel
theorem dX5_isThere_13 : decode cX5_isThere 13 = .ok (.aload_n 0, 1) := by decide +kernel
theorem dX5_isThere_14 : decode cX5_isThere 14 = .ok (.getfield 31, 3) := by decide +kernel
theorem dX5_isThere_17 : decode cX5_isThere 17 = .ok (.arraylength, 1) := by decide +kernel
theorem dX5_isThere_18 : decode cX5_isThere 18 = .ok (.if_icmp .ge 7, 3) := by decide +kernel
theorem dX5_isThere_21 : decode cX5_isThere 21 = .ok (.iconst 1, 1) := by decide +kernel
theorem dX5_isThere_22 : decode cX5_isThere 22 = .ok (.goto 4, 3) := by decide +kernel
theorem dX5_isThere_25 : decode cX5_isThere 25 = .ok (.iconst 0, 1) := by decide +kernel
theorem dX5_isThere_26 : decode cX5_isThere 26 = .ok (.ireturn, 1) := by decide +kernel
set_option maxHeartbeats 4000000 in
set_option maxRecDepth 100000 in
theorem c_M_isThere0 (l : Launch) (d : gD) (b : Nat) (Y : gYt) (F : gM) (S : gSt) (hW : gWT d Y F S) (hv27 : sV S 27 = 0) (i : Int32) : gMi l d b yX5_isThere cX5_isThere 2 .boolean 0 0 0 F [.ref (gO' Y 7), .int i] (fun r F' => r = 0 ∧ F' = F) := by
  refine gM_of2 rfl (nL := 2) (Nat.le_of_ble_eq_true rfl) ?_
  intro X hX hC; subst hX
  show gG X d b _ F 0 0 0 [some (.ref (gO' Y 7)), some (.int i)] []
  obtain ⟨⟨fI, hI, hI2⟩, fO, hO, hO2⟩ := id hW.2.2.2.1
  have hM0 : gSm S S [] [] := gSm.rf
  have hK0 : gKp Y F F := gKp.rf
  refine g_iload_n hC dX5_isThere_0 rfl ?_
  refine g_if_lt (tgt := 25) hC dX5_isThere_1 (by decide) (fun c1 => ?_) (fun c1 => ?_)
  · refine g_iconst (v := 0) hC dX5_isThere_25 rfl ?_
    exact g_iret hC rfl ⟨rfl, rfl⟩ (by first | exact Nat.le_of_ble_eq_true rfl | omega | (simp only [gR]; omega)) (by first | exact Nat.le_of_ble_eq_true rfl | omega | (simp only [gR]; omega)) dX5_isThere_26
  · refine g_iload_n hC dX5_isThere_4 rfl ?_
    refine g_aload_n hC dX5_isThere_5 rfl ?_
    refine g_get hC fl_X5_35 (hW.o 7 (by decide)) rfl dX5_isThere_6 ?_
    refine g_icmp_ge (tgt := 25) hC dX5_isThere_9 (by decide) (fun c2 => ?_) (fun c2 => ?_)
    · refine g_iconst (v := 0) hC dX5_isThere_25 rfl ?_
      exact g_iret hC rfl ⟨rfl, rfl⟩ (by first | exact Nat.le_of_ble_eq_true rfl | omega | (simp only [gR]; omega)) (by first | exact Nat.le_of_ble_eq_true rfl | omega | (simp only [gR]; omega)) dX5_isThere_26
    · exact absurd (hv27 ▸ (Int32.not_lt.mp c1 : (0 : Int32) ≤ i)) c2
theorem dX5_left_0 : decode cX5_left 0 = .ok (.aload_n 0, 1) := by decide +kernel
theorem dX5_left_1 : decode cX5_left 1 = .ok (.iload_n 1, 1) := by decide +kernel
theorem dX5_left_2 : decode cX5_left 2 = .ok (.invokevirtual 75, 3) := by decide +kernel
theorem dX5_left_5 : decode cX5_left 5 = .ok (.ifCond .eq 12, 3) := by decide +kernel
theorem dX5_left_8 : decode cX5_left 8 = .ok (.aload_n 0, 1) := by decide +kernel
theorem dX5_left_9 : decode cX5_left 9 = .ok (.getfield 31, 3) := by decide +kernel
theorem dX5_left_12 : decode cX5_left 12 = .ok (.iload_n 1, 1) := by decide +kernel
theorem dX5_left_13 : decode cX5_left 13 = .ok (.iaload, 1) := by decide +kernel
theorem dX5_left_14 : decode cX5_left 14 = .ok (.goto 4, 3) := by decide +kernel
theorem dX5_left_17 : decode cX5_left 17 = .ok (.iconst 0, 1) := by decide +kernel
theorem dX5_left_18 : decode cX5_left 18 = .ok (.ireturn, 1) := by decide +kernel
set_option maxHeartbeats 4000000 in
set_option maxRecDepth 100000 in
theorem c_M_left0 (l : Launch) (d : gD) (b : Nat) (Y : gYt) (F : gM) (S : gSt) (hW : gWT d Y F S) (hv27 : sV S 27 = 0) (i : Int32) : gMi l d b yX5_left cX5_left 2 .int 1 0 0 F [.ref (gO' Y 7), .int i] (fun r F' => r = 0 ∧ F' = F) := by
  refine gM_of2 rfl (nL := 2) (Nat.le_of_ble_eq_true rfl) ?_
  intro X hX hC; subst hX
  show gG X d b _ F 0 0 0 [some (.ref (gO' Y 7)), some (.int i)] []
  obtain ⟨⟨fI, hI, hI2⟩, fO, hO, hO2⟩ := id hW.2.2.2.1
  have hM0 : gSm S S [] [] := gSm.rf
  have hK0 : gKp Y F F := gKp.rf
  refine g_aload_n hC dX5_left_0 rfl ?_
  refine g_iload_n hC dX5_left_1 rfl ?_
  refine g_callVi (As := [.int i]) hC rfl (hW.o 7 (by decide)) (c_M_isThere0 X.la d b Y F S hW hv27 i) cl_X5_75 rfl rfl (Nat.le_of_ble_eq_true rfl) (gFit_of (Nat.le_of_ble_eq_true rfl) (Nat.le_of_ble_eq_true rfl) (by first | exact Nat.le_of_ble_eq_true rfl | omega | (simp only [gR]; omega)) (by first | exact Nat.le_of_ble_eq_true rfl | omega | (simp only [gR]; omega))) dX5_left_2 (fun r3 F1 p2 => ?_)
  obtain ⟨rfl, eF1⟩ := p2; have eF1 := eF1.symm; subst eF1
  refine g_if_eq (tgt := 17) hC dX5_left_5 (by decide) (fun c4 => ?_) (fun c4 => ?_)
  · refine g_iconst (v := 0) hC dX5_left_17 rfl ?_
    exact g_iret hC rfl ⟨rfl, rfl⟩ (by first | exact Nat.le_of_ble_eq_true rfl | omega | (simp only [gR]; omega)) (by first | exact Nat.le_of_ble_eq_true rfl | omega | (simp only [gR]; omega)) dX5_left_18
  · exact absurd rfl c4
end
section
theorem kw_1625 : Cond.methodLink RX4 39 yX4_cut ∈ gWs := gWm 1625 (by decide +kernel) rfl
theorem cl_X4_39 : gCV RX4 39 yX4_cut cX4_cut 2 none 1 := ⟨g_mk [.methodLink RX4 39 yX4_cut, .instanceMethod yX4_cut, .selects yX4_cut.cls yX4_cut yX4_cut, .initialized yX4_cut.cls] (gWs_all kw_468) (List.forall_mem_cons.mpr ⟨kw_1625, List.forall_mem_cons.mpr ⟨kw_466, List.forall_mem_cons.mpr ⟨kw_467, List.forall_mem_cons.mpr ⟨kw_239, fun _ h => nomatch h⟩⟩⟩⟩), rfl, by decide +kernel, by decide +kernel, by decide +kernel⟩
theorem kw_1626 : Cond.methodLink RX4 43 yX4_size ∈ gWs := gWm 1626 (by decide +kernel) rfl
theorem cl_X4_43 : gCV RX4 43 yX4_size cX4_size 1 (some .int) 0 := ⟨g_mk [.methodLink RX4 43 yX4_size, .instanceMethod yX4_size, .selects yX4_size.cls yX4_size yX4_size, .initialized yX4_size.cls] (gWs_all kw_428) (List.forall_mem_cons.mpr ⟨kw_1626, List.forall_mem_cons.mpr ⟨kw_426, List.forall_mem_cons.mpr ⟨kw_427, List.forall_mem_cons.mpr ⟨kw_239, fun _ h => nomatch h⟩⟩⟩⟩), rfl, by decide +kernel, by decide +kernel, by decide +kernel⟩
theorem kw_1620 : Cond.code yX0_isInput cX0_isInput 2 (some .boolean) ∈ gWs := gWm 1620 (by decide +kernel) rfl
theorem kw_1617 : Cond.methodLink RX0 34 yX0_isInput ∈ gWs := gWm 1617 (by decide +kernel) rfl
theorem kw_1619 : Cond.instanceMethod yX0_isInput ∈ gWs := gWm 1619 (by decide +kernel) rfl
theorem kw_96 : Cond.selects RX0 yX0_isInput yX0_isInput ∈ gWs := gWm 96 (by decide +kernel) rfl
theorem cl_X0_34 : gCV RX0 34 yX0_isInput cX0_isInput 2 (some .boolean) 1 := ⟨g_mk [.methodLink RX0 34 yX0_isInput, .instanceMethod yX0_isInput, .selects yX0_isInput.cls yX0_isInput yX0_isInput, .initialized yX0_isInput.cls] (gWs_all kw_1620) (List.forall_mem_cons.mpr ⟨kw_1617, List.forall_mem_cons.mpr ⟨kw_1619, List.forall_mem_cons.mpr ⟨kw_96, List.forall_mem_cons.mpr ⟨kw_254, fun _ h => nomatch h⟩⟩⟩⟩), rfl, by decide +kernel, by decide +kernel, by decide +kernel⟩
theorem kw_1624 : Cond.code yX4_copyFrom cX4_copyFrom 3 none ∈ gWs := gWm 1624 (by decide +kernel) rfl
theorem kw_1621 : Cond.methodLink RX0 38 yX4_copyFrom ∈ gWs := gWm 1621 (by decide +kernel) rfl
theorem kw_1622 : Cond.instanceMethod yX4_copyFrom ∈ gWs := gWm 1622 (by decide +kernel) rfl
theorem kw_1623 : Cond.selects RX4 yX4_copyFrom yX4_copyFrom ∈ gWs := gWm 1623 (by decide +kernel) rfl
theorem cl_X0_38 : gCV RX0 38 yX4_copyFrom cX4_copyFrom 3 none 1 := ⟨g_mk [.methodLink RX0 38 yX4_copyFrom, .instanceMethod yX4_copyFrom, .selects yX4_copyFrom.cls yX4_copyFrom yX4_copyFrom, .initialized yX4_copyFrom.cls] (gWs_all kw_1624) (List.forall_mem_cons.mpr ⟨kw_1621, List.forall_mem_cons.mpr ⟨kw_1622, List.forall_mem_cons.mpr ⟨kw_1623, List.forall_mem_cons.mpr ⟨kw_239, fun _ h => nomatch h⟩⟩⟩⟩), rfl, by decide +kernel, by decide +kernel, by decide +kernel⟩
theorem kw_1616 : Cond.code yX0_take cX0_take 3 (some .int) ∈ gWs := gWm 1616 (by decide +kernel) rfl
theorem kw_1613 : Cond.methodLink RX11 130 yX0_take ∈ gWs := gWm 1613 (by decide +kernel) rfl
theorem kw_1614 : Cond.instanceMethod yX0_take ∈ gWs := gWm 1614 (by decide +kernel) rfl
theorem kw_1615 : Cond.selects RX0 yX0_take yX0_take ∈ gWs := gWm 1615 (by decide +kernel) rfl
theorem cl_X11_130 : gCV RX11 130 yX0_take cX0_take 3 (some .int) 2 := ⟨g_mk [.methodLink RX11 130 yX0_take, .instanceMethod yX0_take, .selects yX0_take.cls yX0_take yX0_take, .initialized yX0_take.cls] (gWs_all kw_1616) (List.forall_mem_cons.mpr ⟨kw_1613, List.forall_mem_cons.mpr ⟨kw_1614, List.forall_mem_cons.mpr ⟨kw_1615, List.forall_mem_cons.mpr ⟨kw_254, fun _ h => nomatch h⟩⟩⟩⟩), rfl, by decide +kernel, by decide +kernel, by decide +kernel⟩
theorem kw_839 : Cond.methodLink RX11 89 yX4_add ∈ gWs := gWm 839 (by decide +kernel) rfl
theorem cl_X11_89 : gCV RX11 89 yX4_add cX4_add 2 none 1 := ⟨g_mk [.methodLink RX11 89 yX4_add, .instanceMethod yX4_add, .selects yX4_add.cls yX4_add yX4_add, .initialized yX4_add.cls] (gWs_all kw_444) (List.forall_mem_cons.mpr ⟨kw_839, List.forall_mem_cons.mpr ⟨kw_442, List.forall_mem_cons.mpr ⟨kw_443, List.forall_mem_cons.mpr ⟨kw_239, fun _ h => nomatch h⟩⟩⟩⟩), rfl, by decide +kernel, by decide +kernel, by decide +kernel⟩
theorem kw_238 : Cond.initialized RX11 ∈ gWs := gWm 238 (by decide +kernel) rfl
theorem kw_838 : Cond.code yX11_addBytes cX11_addBytes 3 none ∈ gWs := gWm 838 (by decide +kernel) rfl
theorem kw_835 : Cond.methodLink RX11 86 yX11_addBytes ∈ gWs := gWm 835 (by decide +kernel) rfl
theorem kw_837 : Cond.instanceMethod yX11_addBytes ∈ gWs := gWm 837 (by decide +kernel) rfl
theorem kw_3 : Cond.selects RX11 yX11_addBytes yX11_addBytes ∈ gWs := gWm 3 (by decide +kernel) rfl
theorem cl_X11_86 : gCV RX11 86 yX11_addBytes cX11_addBytes 3 none 1 := ⟨g_mk [.methodLink RX11 86 yX11_addBytes, .instanceMethod yX11_addBytes, .selects yX11_addBytes.cls yX11_addBytes yX11_addBytes, .initialized yX11_addBytes.cls] (gWs_all kw_838) (List.forall_mem_cons.mpr ⟨kw_835, List.forall_mem_cons.mpr ⟨kw_837, List.forall_mem_cons.mpr ⟨kw_3, List.forall_mem_cons.mpr ⟨kw_238, fun _ h => nomatch h⟩⟩⟩⟩), rfl, by decide +kernel, by decide +kernel, by decide +kernel⟩
theorem dX4_copyFrom_0 : decode cX4_copyFrom 0 = .ok (.aload_n 0, 1) := by decide +kernel
theorem dX4_copyFrom_1 : decode cX4_copyFrom 1 = .ok (.iconst 0, 1) := by decide +kernel
theorem dX4_copyFrom_2 : decode cX4_copyFrom 2 = .ok (.invokevirtual 39, 3) := by decide +kernel
theorem dX4_copyFrom_5 : decode cX4_copyFrom 5 = .ok (.iconst 0, 1) := by decide +kernel
theorem dX4_copyFrom_6 : decode cX4_copyFrom 6 = .ok (.istore_n 2, 1) := by decide +kernel
theorem dX4_copyFrom_7 : decode cX4_copyFrom 7 = .ok (.iload_n 2, 1) := by decide +kernel
theorem dX4_copyFrom_8 : decode cX4_copyFrom 8 = .ok (.aload_n 1, 1) := by decide +kernel
theorem dX4_copyFrom_9 : decode cX4_copyFrom 9 = .ok (.invokevirtual 43, 3) := by decide +kernel
theorem dX4_copyFrom_12 : decode cX4_copyFrom 12 = .ok (.if_icmp .ge 18, 3) := by decide +kernel
theorem dX4_copyFrom_15 : decode cX4_copyFrom 15 = .ok (.aload_n 0, 1) := by decide +kernel
theorem dX4_copyFrom_16 : decode cX4_copyFrom 16 = .ok (.aload_n 1, 1) := by decide +kernel
theorem dX4_copyFrom_17 : decode cX4_copyFrom 17 = .ok (.iload_n 2, 1) := by decide +kernel
theorem dX4_copyFrom_18 : decode cX4_copyFrom 18 = .ok (.invokevirtual 35, 3) := by decide +kernel
theorem dX4_copyFrom_21 : decode cX4_copyFrom 21 = .ok (.invokevirtual 46, 3) := by decide +kernel
theorem dX4_copyFrom_24 : decode cX4_copyFrom 24 = .ok (.iinc 2 1, 3) := by decide +kernel
theorem dX4_copyFrom_27 : decode cX4_copyFrom 27 = .ok (.goto (-20), 3) := by decide +kernel
theorem dX4_copyFrom_30 : decode cX4_copyFrom 30 = .ok (.return_, 1) := by decide +kernel
set_option maxHeartbeats 4000000 in
set_option maxRecDepth 100000 in
theorem c_Ints_copy0 (l : Launch) (d : gD) (b : Nat) (F : gM) (a q mo n a2 q2 mo2 n2 : Nat) (f f2 : Nat → Int32) (h : gIn d F a q mo n 0 f) (h2 : gIn d F a2 q2 mo2 n2 0 f2) : gMv l d b yX4_copyFrom cX4_copyFrom 3 1 0 0 F [.ref a, .ref a2] (fun F' => F' = F) := by
  refine gM_of2 rfl (nL := 3) (Nat.le_of_ble_eq_true rfl) ?_
  intro X hX hC; subst hX
  show gG X d b _ F 0 0 0 [some (.ref a), some (.ref a2), none] []
  refine g_aload_n hC dX4_copyFrom_0 rfl ?_
  refine g_iconst (v := 0) hC dX4_copyFrom_1 rfl ?_
  refine g_callVv (As := [.int 0]) hC rfl h.1 (c_Ints_cut X.la d b F a q mo n 0 f h 0) cl_X4_39 rfl rfl (Nat.le_of_ble_eq_true rfl) (gFit_of (Nat.le_of_ble_eq_true rfl) (Nat.le_of_ble_eq_true rfl) (by first | exact Nat.le_of_ble_eq_true rfl | omega | (simp only [gR]; omega)) (by first | exact Nat.le_of_ble_eq_true rfl | omega | (simp only [gR]; omega))) dX4_copyFrom_2 (fun F1 p2 => ?_)
  have eF1 := (p2.2.1 (Or.inr (by decide))).symm; subst eF1
  refine g_iconst (v := 0) hC dX4_copyFrom_5 rfl ?_
  refine g_istore_n (lv' := [some (.ref a), some (.ref a2), some (.int 0)]) hC dX4_copyFrom_6 (Nat.le_of_ble_eq_true rfl) rfl rfl ?_
  refine g_iload_n hC dX4_copyFrom_7 rfl ?_
  refine g_aload_n hC dX4_copyFrom_8 rfl ?_
  refine g_callVi (As := []) hC rfl h2.1 (c_Ints_size X.la d b F a2 q2 mo2 n2 0 f2 h2) cl_X4_43 rfl rfl (Nat.le_of_ble_eq_true rfl) (gFit_of (Nat.le_of_ble_eq_true rfl) (Nat.le_of_ble_eq_true rfl) (by first | exact Nat.le_of_ble_eq_true rfl | omega | (simp only [gR]; omega)) (by first | exact Nat.le_of_ble_eq_true rfl | omega | (simp only [gR]; omega))) dX4_copyFrom_9 (fun r6 F4 p5 => ?_)
  obtain ⟨rfl, eF4⟩ := p5; have eF4 := eF4.symm; subst eF4
  refine g_icmp_ge (tgt := 30) hC dX4_copyFrom_12 (by decide) (fun c7 => ?_) (fun c7 => ?_)
  · exact g_vret hC rfl (by first | exact Nat.le_of_ble_eq_true rfl | omega | (simp only [gR]; omega)) (by first | exact Nat.le_of_ble_eq_true rfl | omega | (simp only [gR]; omega)) dX4_copyFrom_30
  · exact absurd (by decide) c7
theorem dX0_take_0 : decode cX0_take 0 = .ok (.aload_n 0, 1) := by decide +kernel
theorem dX0_take_1 : decode cX0_take 1 = .ok (.iload_n 1, 1) := by decide +kernel
theorem dX0_take_2 : decode cX0_take 2 = .ok (.invokevirtual 34, 3) := by decide +kernel
theorem dX0_take_5 : decode cX0_take 5 = .ok (.ifCond .ne 5, 3) := by decide +kernel
theorem dX0_take_8 : decode cX0_take 8 = .ok (.iconst (-1), 1) := by decide +kernel
theorem dX0_take_9 : decode cX0_take 9 = .ok (.ireturn, 1) := by decide +kernel
theorem dX0_take_10 : decode cX0_take 10 = .ok (.aload_n 0, 1) := by decide +kernel
theorem dX0_take_11 : decode cX0_take 11 = .ok (.getfield 14, 3) := by decide +kernel
theorem dX0_take_14 : decode cX0_take 14 = .ok (.iload_n 1, 1) := by decide +kernel
theorem dX0_take_15 : decode cX0_take 15 = .ok (.aaload, 1) := by decide +kernel
theorem dX0_take_16 : decode cX0_take 16 = .ok (.aload_n 2, 1) := by decide +kernel
theorem dX0_take_17 : decode cX0_take 17 = .ok (.invokevirtual 38, 3) := by decide +kernel
theorem dX0_take_20 : decode cX0_take 20 = .ok (.aload_n 0, 1) := by decide +kernel
theorem dX0_take_21 : decode cX0_take 21 = .ok (.getfield 20, 3) := by decide +kernel
theorem dX0_take_24 : decode cX0_take 24 = .ok (.iload_n 1, 1) := by decide +kernel
theorem dX0_take_25 : decode cX0_take 25 = .ok (.iconst 0, 1) := by decide +kernel
theorem dX0_take_26 : decode cX0_take 26 = .ok (.iastore, 1) := by decide +kernel
theorem dX0_take_27 : decode cX0_take 27 = .ok (.aload_n 0, 1) := by decide +kernel
theorem dX0_take_28 : decode cX0_take 28 = .ok (.getfield 14, 3) := by decide +kernel
theorem dX0_take_31 : decode cX0_take 31 = .ok (.iload_n 1, 1) := by decide +kernel
theorem dX0_take_32 : decode cX0_take 32 = .ok (.aaload, 1) := by decide +kernel
theorem dX0_take_33 : decode cX0_take 33 = .ok (.invokevirtual 42, 3) := by decide +kernel
theorem dX0_take_36 : decode cX0_take 36 = .ok (.ireturn, 1) := by decide +kernel
set_option maxHeartbeats 4000000 in
set_option maxRecDepth 100000 in
theorem c_C_take0 (l : Launch) (d : gD) (b : Nat) (Y : gYt) (F : gM) (S : gSt) (hW : gWT d Y F S) (hz0 : sZ S 0 = 0) (hzi : ∀ j, j < 4 → sZ S (34 + j) = 0) (i : Int32) : gMi l d b yX0_take cX0_take 3 .int 2 0 0 F [.ref (gO' Y 6), .int i, .ref (gA' Y 0)] (fun r F' => (i < 0 ∨ nI 4 ≤ i → r = (-1)) ∧ (¬ i < 0 ∧ ¬ nI 4 ≤ i → r = 0) ∧ ∃ S', gWT d Y F' S' ∧ gKp Y F F' ∧ gSm S S' [44] []) := by
  refine gM_of2 rfl (nL := 3) (Nat.le_of_ble_eq_true rfl) ?_
  intro X hX hC; subst hX
  show gG X d b _ F 0 0 0 [some (.ref (gO' Y 6)), some (.int i), some (.ref (gA' Y 0))] []
  obtain ⟨⟨fI, hI, hI2⟩, fO, hO, hO2⟩ := id hW.2.2.2.1
  have hM0 : gSm S S [44] [] := gSm.rf
  have hK0 : gKp Y F F := gKp.rf
  refine g_aload_n hC dX0_take_0 rfl ?_
  refine g_iload_n hC dX0_take_1 rfl ?_
  refine g_callVi (As := [.int i]) hC rfl (hW.o 6 (by decide)) (c_C_isInput X.la d b Y F S hW i) cl_X0_34 rfl rfl (Nat.le_of_ble_eq_true rfl) (gFit_of (Nat.le_of_ble_eq_true rfl) (Nat.le_of_ble_eq_true rfl) (by first | exact Nat.le_of_ble_eq_true rfl | omega | (simp only [gR]; omega)) (by first | exact Nat.le_of_ble_eq_true rfl | omega | (simp only [gR]; omega))) dX0_take_2 (fun r3 F1 p2 => ?_)
  obtain ⟨ar3, br3, er3⟩ := p2; have er3 := er3.symm; subst er3
  refine g_if_ne (tgt := 10) hC dX0_take_5 (by decide) (fun c4 => ?_) (fun c4 => ?_)
  · have hc1 : ¬ i < 0 := fun q => c4 (ar3 (Or.inl q))
    have hc2 : ¬ nI 4 ≤ i := fun q => c4 (ar3 (Or.inr q))
    obtain ⟨j, hj, rfl⟩ : ∃ j : Nat, j < 4 ∧ i = nI j := by
      obtain ⟨j, hj, rfl⟩ := nI_of hc1
      exact ⟨j, Nat.not_le.mp (fun q => hc2 (nI_le q hj)), rfl⟩
    refine g_aload_n hC dX0_take_10 rfl ?_
    refine g_get hC fl_X0_14 (hW.o 6 (by decide)) rfl dX0_take_11 ?_
    refine g_iload_n hC dX0_take_14 rfl ?_
    refine g_aald hC hI (vp_in_nI hj (by decide)) dX0_take_15 ?_
    rw [nI_clamp (by omega), hI2 j hj]
    refine g_aload_n hC dX0_take_16 rfl ?_
    have hr1 := hW.r (34 + j) (by omega)
    rw [hzi j hj] at hr1
    have hr0 := hW.r 0 (by decide)
    rw [hz0] at hr0
    refine g_callVv (As := [.ref (gA' Y 0)]) hC rfl hr1.1 (c_Ints_copy0 X.la d b F _ _ _ _ _ _ _ _ _ _ hr1 hr0) cl_X0_38 rfl rfl (Nat.le_of_ble_eq_true rfl) (gFit_of (Nat.le_of_ble_eq_true rfl) (Nat.le_of_ble_eq_true rfl) (by first | exact Nat.le_of_ble_eq_true rfl | omega | (simp only [gR]; omega)) (by first | exact Nat.le_of_ble_eq_true rfl | omega | (simp only [gR]; omega))) dX0_take_17 (fun F5 p6 => ?_)
    have eF5 := p6.symm; subst eF5
    refine g_aload_n hC dX0_take_20 rfl ?_
    refine g_get hC fl_X0_20 (hW.o 6 (by decide)) rfl dX0_take_21 ?_
    refine g_iload_n hC dX0_take_24 rfl ?_
    refine g_iconst (v := 0) hC dX0_take_25 rfl ?_
    refine g_iast hC hW.p (vp_in_nI hj (by decide)) dX0_take_26 ?_
    refine g_vF (fun F9 hF9 => ?_)
    obtain ⟨hW9, hK9⟩ := gWT.arr44 hW hF9
    obtain ⟨S9, hS9⟩ : ∃ z : gSt, z = (S.1, S.2.1, S.2.2.1, S.2.2.2.1, va_up S.2.2.2.2 44 (upd (sF S 44) (nI j).toNatClampNeg 0)) := ⟨_, rfl⟩
    rw [← hS9] at hW9
    have hs9 : gSm S S9 [44] [] := by rw [hS9]; exact ⟨fun i hi => ⟨rfl, rfl, rfl, va_up_ne _ _ (fun e => hi (by rw [e]; exact List.mem_singleton.mpr rfl))⟩, fun _ _ => rfl⟩
    have hM7 : gSm S S9 [44] [] := hM0.tr hs9 _ _ rfl rfl
    have hK8 : gKp Y F F9 := hK0.tr hK9
    obtain ⟨⟨fI9, hI9, hI92⟩, -⟩ := id hW9.2.2.2.1
    refine g_aload_n hC dX0_take_27 rfl ?_
    refine g_get hC fl_X0_14 (hW9.o 6 (by decide)) rfl dX0_take_28 ?_
    refine g_iload_n hC dX0_take_31 rfl ?_
    refine g_aald hC hI9 (vp_in_nI hj (by decide)) dX0_take_32 ?_
    rw [nI_clamp (by omega), hI92 j hj]
    refine g_callVi (As := []) hC rfl (hW9.r (34 + j) (by omega)).1 (c_Ints_size X.la d b F9 _ _ _ _ _ _ (hW9.r (34 + j) (by omega))) cl_X0_42 rfl rfl (Nat.le_of_ble_eq_true rfl) (gFit_of (Nat.le_of_ble_eq_true rfl) (Nat.le_of_ble_eq_true rfl) (by first | exact Nat.le_of_ble_eq_true rfl | omega | (simp only [gR]; omega)) (by first | exact Nat.le_of_ble_eq_true rfl | omega | (simp only [gR]; omega))) dX0_take_33 (fun r9 F10 p11 => ?_)
    obtain ⟨rfl, eF10⟩ := p11; have eF10 := eF10.symm; subst eF10
    have hz9 : nI (sZ S9 (34 + j)) = 0 := by rw [(hs9.1 (34 + j) (by simp; omega)).2.2.1, hzi j hj]; rfl
    exact g_iret hC rfl ⟨fun z => absurd z (fun z => z.elim hc1 hc2), fun _ => hz9, S9, hW9, hK8, hM7⟩ (by first | exact Nat.le_of_ble_eq_true rfl | omega | (simp only [gR]; omega)) (by first | exact Nat.le_of_ble_eq_true rfl | omega | (simp only [gR]; omega)) dX0_take_36
  · have hno : i < 0 ∨ nI 4 ≤ i := Classical.byContradiction fun z => by
      rw [br3 ⟨fun q => z (Or.inl q), fun q => z (Or.inr q)⟩] at c4
      exact absurd c4 (by decide)
    refine g_iconst (v := (-1)) hC dX0_take_8 rfl ?_
    exact g_iret hC rfl ⟨fun _ => rfl, fun z => absurd hno (fun q => q.elim z.1 z.2), S, hW, gKp.rf, gSm.rf⟩ (by first | exact Nat.le_of_ble_eq_true rfl | omega | (simp only [gR]; omega)) (by first | exact Nat.le_of_ble_eq_true rfl | omega | (simp only [gR]; omega)) dX0_take_9
theorem dX11_input_0 : decode cX11_input 0 = .ok (.aload_n 0, 1) := by decide +kernel
theorem dX11_input_1 : decode cX11_input 1 = .ok (.getfield 62, 3) := by decide +kernel
theorem dX11_input_4 : decode cX11_input 4 = .ok (.iload_n 1, 1) := by decide +kernel
theorem dX11_input_5 : decode cX11_input 5 = .ok (.aload_n 0, 1) := by decide +kernel
theorem dX11_input_6 : decode cX11_input 6 = .ok (.getfield 14, 3) := by decide +kernel
theorem dX11_input_9 : decode cX11_input 9 = .ok (.invokevirtual 130, 3) := by decide +kernel
theorem dX11_input_12 : decode cX11_input 12 = .ok (.istore_n 2, 1) := by decide +kernel
theorem dX11_input_13 : decode cX11_input 13 = .ok (.aload_n 0, 1) := by decide +kernel
theorem dX11_input_14 : decode cX11_input 14 = .ok (.getfield 14, 3) := by decide +kernel
theorem dX11_input_17 : decode cX11_input 17 = .ok (.iconst 0, 1) := by decide +kernel
theorem dX11_input_18 : decode cX11_input 18 = .ok (.invokevirtual 92, 3) := by decide +kernel
theorem dX11_input_21 : decode cX11_input 21 = .ok (.iload_n 2, 1) := by decide +kernel
theorem dX11_input_22 : decode cX11_input 22 = .ok (.ireturn, 1) := by decide +kernel
set_option maxHeartbeats 4000000 in
set_option maxRecDepth 100000 in
theorem c_W_input0 (l : Launch) (d : gD) (b : Nat) (Y : gYt) (F : gM) (S : gSt) (hW : gWT d Y F S) (hz0 : sZ S 0 = 0) (hzi : ∀ j, j < 4 → sZ S (34 + j) = 0) (i : Int32) : gMi l d b yX11_input cX11_input 3 .int 3 0 0 F [.ref (gO' Y 0), .int i] (fun r F' => (i < 0 ∨ nI 4 ≤ i → r = (-1)) ∧ (¬ i < 0 ∧ ¬ nI 4 ≤ i → r = 0) ∧ ∃ S', gWT d Y F' S' ∧ gKp Y F F' ∧ gSm S S' [0, 44] []) := by
  refine gM_of2 rfl (nL := 3) (Nat.le_of_ble_eq_true rfl) ?_
  intro X hX hC; subst hX
  show gG X d b _ F 0 0 0 [some (.ref (gO' Y 0)), some (.int i), none] []
  have hM0 : gSm S S [0, 44] [] := gSm.rf
  have hK0 : gKp Y F F := gKp.rf
  refine g_aload_n hC dX11_input_0 rfl ?_
  refine g_get hC fl_X11_62 (hW.o 0 (by decide)) rfl dX11_input_1 ?_
  refine g_iload_n hC dX11_input_4 rfl ?_
  refine g_aload_n hC dX11_input_5 rfl ?_
  refine g_get hC fl_X11_14 (hW.o 0 (by decide)) rfl dX11_input_6 ?_
  refine g_callVi (As := [.int i, .ref (gA' Y 0)]) hC rfl (hW.o 6 (by decide)) (c_C_take0 X.la d b Y F S hW hz0 hzi i) cl_X11_130 rfl rfl (Nat.le_of_ble_eq_true rfl) (gFit_of (Nat.le_of_ble_eq_true rfl) (Nat.le_of_ble_eq_true rfl) (by first | exact Nat.le_of_ble_eq_true rfl | omega | (simp only [gR]; omega)) (by first | exact Nat.le_of_ble_eq_true rfl | omega | (simp only [gR]; omega))) dX11_input_9 (fun r3 F1 p2 => ?_)
  obtain ⟨a1, a2, S4, hW5, k6, s7⟩ := p2
  have hM8 : gSm S S4 [0, 44] [] := hM0.tr s7 _ _ rfl rfl
  have hK9 : gKp Y F F1 := hK0.tr k6
  refine g_istore_n (lv' := [some (.ref (gO' Y 0)), some (.int i), some (.int r3)]) hC dX11_input_12 (Nat.le_of_ble_eq_true rfl) rfl rfl ?_
  refine g_aload_n hC dX11_input_13 rfl ?_
  refine g_get hC fl_X11_14 (hW5.o 0 (by decide)) rfl dX11_input_14 ?_
  refine g_iconst (v := 0) hC dX11_input_17 rfl ?_
  refine g_callVv (As := [.int 0]) hC rfl (hW5.r 0 (by decide)).1 (c_Ints_cut X.la d b F1 _ _ _ _ _ _ (hW5.r 0 (by decide)) 0) cl_X11_92 rfl rfl (Nat.le_of_ble_eq_true rfl) (gFit_of (Nat.le_of_ble_eq_true rfl) (Nat.le_of_ble_eq_true rfl) (by first | exact Nat.le_of_ble_eq_true rfl | omega | (simp only [gR]; omega)) (by first | exact Nat.le_of_ble_eq_true rfl | omega | (simp only [gR]; omega))) dX11_input_18 (fun F11 p12 => ?_)
  obtain ⟨S13, hW14, k15, s16, u17, u18, u19, u20, u21⟩ := wt_cut hW5 (by decide) p12
  have hM22 : gSm S S13 [0, 44] [] := hM8.tr s16 _ _ rfl rfl
  have hK23 : gKp Y F F11 := hK9.tr k15
  refine g_iload_n hC dX11_input_21 rfl ?_
  exact g_iret hC rfl ⟨a1, a2, S13, hW14, hK23, hM22⟩ (by first | exact Nat.le_of_ble_eq_true rfl | omega | (simp only [gR]; omega)) (by first | exact Nat.le_of_ble_eq_true rfl | omega | (simp only [gR]; omega)) dX11_input_22
theorem dX11_addBytes_0 : decode cX11_addBytes 0 = .ok (.bipush 24, 2) := by decide +kernel
theorem dX11_addBytes_2 : decode cX11_addBytes 2 = .ok (.istore_n 2, 1) := by decide +kernel
theorem dX11_addBytes_3 : decode cX11_addBytes 3 = .ok (.iload_n 2, 1) := by decide +kernel
theorem dX11_addBytes_4 : decode cX11_addBytes 4 = .ok (.ifCond .lt 23, 3) := by decide +kernel
theorem dX11_addBytes_7 : decode cX11_addBytes 7 = .ok (.aload_n 0, 1) := by decide +kernel
theorem dX11_addBytes_8 : decode cX11_addBytes 8 = .ok (.getfield 14, 3) := by decide +kernel
theorem dX11_addBytes_11 : decode cX11_addBytes 11 = .ok (.iload_n 1, 1) := by decide +kernel
theorem dX11_addBytes_12 : decode cX11_addBytes 12 = .ok (.iload_n 2, 1) := by decide +kernel
theorem dX11_addBytes_13 : decode cX11_addBytes 13 = .ok (.iushr, 1) := by decide +kernel
theorem dX11_addBytes_14 : decode cX11_addBytes 14 = .ok (.sipush 255, 3) := by decide +kernel
theorem dX11_addBytes_17 : decode cX11_addBytes 17 = .ok (.iand, 1) := by decide +kernel
theorem dX11_addBytes_18 : decode cX11_addBytes 18 = .ok (.invokevirtual 89, 3) := by decide +kernel
theorem dX11_addBytes_21 : decode cX11_addBytes 21 = .ok (.iinc 2 (-8), 3) := by decide +kernel
theorem dX11_addBytes_24 : decode cX11_addBytes 24 = .ok (.goto (-21), 3) := by decide +kernel
theorem dX11_addBytes_27 : decode cX11_addBytes 27 = .ok (.return_, 1) := by decide +kernel
set_option maxHeartbeats 4000000 in
set_option maxRecDepth 100000 in
theorem c_W_addBytes (l : Launch) (d : gD) (b : Nat) (Y : gYt) (F : gM) (S : gSt) (hW : gWT d Y F S) (x : Int32) (z : Nat) (hz : sZ S 0 = z) (hn : sN S 0 = 16) (hl : z + 4 ≤ 16) : gMv l d b yX11_addBytes cX11_addBytes 3 3 0 0 F [.ref (gO' Y 0), .int x] (fun F' => ∃ S', gWT d Y F' S' ∧ gKp Y F F' ∧ gSm S S' [0] [] ∧ sZ S' 0 = z + 1 + 1 + 1 + 1 ∧ sN S' 0 = 16) := by
  refine gM_of2 rfl (nL := 3) (Nat.le_of_ble_eq_true rfl) ?_
  intro X hX hC; subst hX
  show gG X d b _ F 0 0 0 [some (.ref (gO' Y 0)), some (.int x), none] []
  have hM0 : gSm S S [0] [] := gSm.rf
  have hK0 : gKp Y F F := gKp.rf
  refine g_bipush (v := 24) hC dX11_addBytes_0 rfl ?_
  refine g_istore_n (lv' := [some (.ref (gO' Y 0)), some (.int x), some (.int 24)]) hC dX11_addBytes_2 (Nat.le_of_ble_eq_true rfl) rfl rfl ?_
  refine g_iload_n hC dX11_addBytes_3 rfl ?_
  refine g_if_lt (tgt := 27) hC dX11_addBytes_4 (by decide) (fun c1 => ?_) (fun c1 => ?_)
  · exact absurd c1 (by decide)
  · refine g_aload_n hC dX11_addBytes_7 rfl ?_
    refine g_get hC fl_X11_14 (hW.o 0 (by decide)) rfl dX11_addBytes_8 ?_
    refine g_iload_n hC dX11_addBytes_11 rfl ?_
    refine g_iload_n hC dX11_addBytes_12 rfl ?_
    refine g_iushr hC dX11_addBytes_13 ?_
    refine g_vi (fun x2 ex2 => ?_)
    refine g_sipush (v := 255) hC dX11_addBytes_14 rfl ?_
    refine g_iand hC dX11_addBytes_17 ?_
    refine g_vi (fun x3 ex3 => ?_)
    have z7 : gAc (sN S 0) (sZ S 0) = 0 := gAc0 (by rw [hz, hn]; exact (by omega))
    have z8 : gAs (gmo 0) (sN S 0) (sZ S 0) = 0 := gAs0 (by rw [hz, hn]; exact (by omega))
    refine g_callVv (As := [.int x3]) hC rfl (hW.r 0 (by decide)).1 (c_Ints_add X.la d b F _ _ _ _ _ _ (hW.r 0 (by decide)) x3) cl_X11_89 rfl rfl (Nat.le_of_ble_eq_true rfl) (gFit_add (Nat.le_of_ble_eq_true rfl) (Nat.le_of_ble_eq_true rfl) z7 z8 (Nat.le_of_ble_eq_true rfl) (Nat.le_of_ble_eq_true rfl)) dX11_addBytes_18 (fun F5 p6 => ?_)
    refine g_kn (k2 := 0) (n2 := 0) (by rw [z7]) (by rw [z8]) ?_
    obtain ⟨S9, hW10, k11, s12, a13, -⟩ := wt_add hW (by decide) p6
    have a13 := a13 (by rw [hz]; exact Nat.lt_of_lt_of_le (by omega) (w_mo 0))
    have hM14 : gSm S S9 [0] [] := hM0.tr s12 _ _ rfl rfl
    have hK15 : gKp Y F F5 := hK0.tr k11
    have z16 : sZ S9 0 = (z + 1) := by rw [a13.1, hz]
    have z17 : sN S9 0 = 16 := by rw [a13.2.1, gAn0 (by rw [hz, hn]; exact (by omega)), hn]
    clear hz hn hM0 hK0 s12 k11 hW a13 z7 z8 p6
    obtain ⟨x18, ex18⟩ : ∃ y : Int32, y = 24 + (-8) := ⟨_, rfl⟩
    refine g_iinc (v := x18) (lv' := [some (.ref (gO' Y 0)), some (.int x), some (.int x18)]) hC dX11_addBytes_21 rfl (by rw [ex18]; rfl) rfl rfl ?_
    have zx18 : x18 = (16) := by rw [ex18]; decide
    subst zx18
    refine g_goto (tgt := 3) hC dX11_addBytes_24 (by decide) ?_
    refine g_iload_n hC dX11_addBytes_3 rfl ?_
    refine g_if_lt (tgt := 27) hC dX11_addBytes_4 (by decide) (fun c19 => ?_) (fun c19 => ?_)
    · exact absurd c19 (by decide)
    · refine g_aload_n hC dX11_addBytes_7 rfl ?_
      refine g_get hC fl_X11_14 (hW10.o 0 (by decide)) rfl dX11_addBytes_8 ?_
      refine g_iload_n hC dX11_addBytes_11 rfl ?_
      refine g_iload_n hC dX11_addBytes_12 rfl ?_
      refine g_iushr hC dX11_addBytes_13 ?_
      refine g_vi (fun x20 ex20 => ?_)
      refine g_sipush (v := 255) hC dX11_addBytes_14 rfl ?_
      refine g_iand hC dX11_addBytes_17 ?_
      refine g_vi (fun x21 ex21 => ?_)
      have z25 : gAc (sN S9 0) (sZ S9 0) = 0 := gAc0 (by rw [z16, z17]; exact (by omega))
      have z26 : gAs (gmo 0) (sN S9 0) (sZ S9 0) = 0 := gAs0 (by rw [z16, z17]; exact (by omega))
      refine g_callVv (As := [.int x21]) hC rfl (hW10.r 0 (by decide)).1 (c_Ints_add X.la d b F5 _ _ _ _ _ _ (hW10.r 0 (by decide)) x21) cl_X11_89 rfl rfl (Nat.le_of_ble_eq_true rfl) (gFit_add (Nat.le_of_ble_eq_true rfl) (Nat.le_of_ble_eq_true rfl) z25 z26 (Nat.le_of_ble_eq_true rfl) (Nat.le_of_ble_eq_true rfl)) dX11_addBytes_18 (fun F23 p24 => ?_)
      refine g_kn (k2 := 0) (n2 := 0) (by rw [z25]) (by rw [z26]) ?_
      obtain ⟨S27, hW28, k29, s30, a31, -⟩ := wt_add hW10 (by decide) p24
      have a31 := a31 (by rw [z16]; exact Nat.lt_of_lt_of_le (by omega) (w_mo 0))
      have hM32 : gSm S S27 [0] [] := hM14.tr s30 _ _ rfl rfl
      have hK33 : gKp Y F F23 := hK15.tr k29
      have z34 : sZ S27 0 = ((z + 1) + 1) := by rw [a31.1, z16]
      have z35 : sN S27 0 = 16 := by rw [a31.2.1, gAn0 (by rw [z16, z17]; exact (by omega)), z17]
      clear z16 z17 hM14 hK15 s30 k29 hW10 a31 z25 z26 p24
      obtain ⟨x36, ex36⟩ : ∃ y : Int32, y = 16 + (-8) := ⟨_, rfl⟩
      refine g_iinc (v := x36) (lv' := [some (.ref (gO' Y 0)), some (.int x), some (.int x36)]) hC dX11_addBytes_21 rfl (by rw [ex36]; rfl) rfl rfl ?_
      have zx36 : x36 = (8) := by rw [ex36]; decide
      subst zx36
      refine g_goto (tgt := 3) hC dX11_addBytes_24 (by decide) ?_
      refine g_iload_n hC dX11_addBytes_3 rfl ?_
      refine g_if_lt (tgt := 27) hC dX11_addBytes_4 (by decide) (fun c37 => ?_) (fun c37 => ?_)
      · exact absurd c37 (by decide)
      · refine g_aload_n hC dX11_addBytes_7 rfl ?_
        refine g_get hC fl_X11_14 (hW28.o 0 (by decide)) rfl dX11_addBytes_8 ?_
        refine g_iload_n hC dX11_addBytes_11 rfl ?_
        refine g_iload_n hC dX11_addBytes_12 rfl ?_
        refine g_iushr hC dX11_addBytes_13 ?_
        refine g_vi (fun x38 ex38 => ?_)
        refine g_sipush (v := 255) hC dX11_addBytes_14 rfl ?_
        refine g_iand hC dX11_addBytes_17 ?_
        refine g_vi (fun x39 ex39 => ?_)
        have z43 : gAc (sN S27 0) (sZ S27 0) = 0 := gAc0 (by rw [z34, z35]; exact (by omega))
        have z44 : gAs (gmo 0) (sN S27 0) (sZ S27 0) = 0 := gAs0 (by rw [z34, z35]; exact (by omega))
        refine g_callVv (As := [.int x39]) hC rfl (hW28.r 0 (by decide)).1 (c_Ints_add X.la d b F23 _ _ _ _ _ _ (hW28.r 0 (by decide)) x39) cl_X11_89 rfl rfl (Nat.le_of_ble_eq_true rfl) (gFit_add (Nat.le_of_ble_eq_true rfl) (Nat.le_of_ble_eq_true rfl) z43 z44 (Nat.le_of_ble_eq_true rfl) (Nat.le_of_ble_eq_true rfl)) dX11_addBytes_18 (fun F41 p42 => ?_)
        refine g_kn (k2 := 0) (n2 := 0) (by rw [z43]) (by rw [z44]) ?_
        obtain ⟨S45, hW46, k47, s48, a49, -⟩ := wt_add hW28 (by decide) p42
        have a49 := a49 (by rw [z34]; exact Nat.lt_of_lt_of_le (by omega) (w_mo 0))
        have hM50 : gSm S S45 [0] [] := hM32.tr s48 _ _ rfl rfl
        have hK51 : gKp Y F F41 := hK33.tr k47
        have z52 : sZ S45 0 = (((z + 1) + 1) + 1) := by rw [a49.1, z34]
        have z53 : sN S45 0 = 16 := by rw [a49.2.1, gAn0 (by rw [z34, z35]; exact (by omega)), z35]
        clear z34 z35 hM32 hK33 s48 k47 hW28 a49 z43 z44 p42
        obtain ⟨x54, ex54⟩ : ∃ y : Int32, y = 8 + (-8) := ⟨_, rfl⟩
        refine g_iinc (v := x54) (lv' := [some (.ref (gO' Y 0)), some (.int x), some (.int x54)]) hC dX11_addBytes_21 rfl (by rw [ex54]; rfl) rfl rfl ?_
        have zx54 : x54 = (0) := by rw [ex54]; decide
        subst zx54
        refine g_goto (tgt := 3) hC dX11_addBytes_24 (by decide) ?_
        refine g_iload_n hC dX11_addBytes_3 rfl ?_
        refine g_if_lt (tgt := 27) hC dX11_addBytes_4 (by decide) (fun c55 => ?_) (fun c55 => ?_)
        · exact absurd c55 (by decide)
        · refine g_aload_n hC dX11_addBytes_7 rfl ?_
          refine g_get hC fl_X11_14 (hW46.o 0 (by decide)) rfl dX11_addBytes_8 ?_
          refine g_iload_n hC dX11_addBytes_11 rfl ?_
          refine g_iload_n hC dX11_addBytes_12 rfl ?_
          refine g_iushr hC dX11_addBytes_13 ?_
          refine g_vi (fun x56 ex56 => ?_)
          refine g_sipush (v := 255) hC dX11_addBytes_14 rfl ?_
          refine g_iand hC dX11_addBytes_17 ?_
          refine g_vi (fun x57 ex57 => ?_)
          have z61 : gAc (sN S45 0) (sZ S45 0) = 0 := gAc0 (by rw [z52, z53]; exact (by omega))
          have z62 : gAs (gmo 0) (sN S45 0) (sZ S45 0) = 0 := gAs0 (by rw [z52, z53]; exact (by omega))
          refine g_callVv (As := [.int x57]) hC rfl (hW46.r 0 (by decide)).1 (c_Ints_add X.la d b F41 _ _ _ _ _ _ (hW46.r 0 (by decide)) x57) cl_X11_89 rfl rfl (Nat.le_of_ble_eq_true rfl) (gFit_add (Nat.le_of_ble_eq_true rfl) (Nat.le_of_ble_eq_true rfl) z61 z62 (Nat.le_of_ble_eq_true rfl) (Nat.le_of_ble_eq_true rfl)) dX11_addBytes_18 (fun F59 p60 => ?_)
          refine g_kn (k2 := 0) (n2 := 0) (by rw [z61]) (by rw [z62]) ?_
          obtain ⟨S63, hW64, k65, s66, a67, -⟩ := wt_add hW46 (by decide) p60
          have a67 := a67 (by rw [z52]; exact Nat.lt_of_lt_of_le (by omega) (w_mo 0))
          have hM68 : gSm S S63 [0] [] := hM50.tr s66 _ _ rfl rfl
          have hK69 : gKp Y F F59 := hK51.tr k65
          have z70 : sZ S63 0 = ((((z + 1) + 1) + 1) + 1) := by rw [a67.1, z52]
          have z71 : sN S63 0 = 16 := by rw [a67.2.1, gAn0 (by rw [z52, z53]; exact (by omega)), z53]
          clear z52 z53 hM50 hK51 s66 k65 hW46 a67 z61 z62 p60
          obtain ⟨x72, ex72⟩ : ∃ y : Int32, y = 0 + (-8) := ⟨_, rfl⟩
          refine g_iinc (v := x72) (lv' := [some (.ref (gO' Y 0)), some (.int x), some (.int x72)]) hC dX11_addBytes_21 rfl (by rw [ex72]; rfl) rfl rfl ?_
          have zx72 : x72 = (-8) := by rw [ex72]; decide
          subst zx72
          refine g_goto (tgt := 3) hC dX11_addBytes_24 (by decide) ?_
          refine g_iload_n hC dX11_addBytes_3 rfl ?_
          refine g_if_lt (tgt := 27) hC dX11_addBytes_4 (by decide) (fun c73 => ?_) (fun c73 => ?_)
          · exact g_vret hC ⟨S63, hW64, hK69, hM68, z70, z71⟩ (by first | exact Nat.le_of_ble_eq_true rfl | omega | (simp only [gR]; omega)) (by first | exact Nat.le_of_ble_eq_true rfl | omega | (simp only [gR]; omega)) dX11_addBytes_27
          · exact absurd (by decide) c73
set_option maxHeartbeats 4000000 in
set_option maxRecDepth 100000 in
theorem c_W_addBytesG (l : Launch) (d : gD) (b : Nat) (Y : gYt) (F : gM) (S : gSt) (hW : gWT d Y F S) (x : Int32) (hz : sZ S 0 = 16) (hn : sN S 0 = 16) : gMv l d b yX11_addBytes cX11_addBytes 3 3 1 32 F [.ref (gO' Y 0), .int x] (fun F' => ∃ S', gWT d Y F' S' ∧ gKp Y F F' ∧ gSm S S' [0] [] ∧ sZ S' 0 = 20 ∧ sN S' 0 = 32) := by
  refine gM_of2 rfl (nL := 3) (Nat.le_of_ble_eq_true rfl) ?_
  intro X hX hC; subst hX
  show gG X d b _ F 0 0 0 [some (.ref (gO' Y 0)), some (.int x), none] []
  have hM0 : gSm S S [0] [] := gSm.rf
  have hK0 : gKp Y F F := gKp.rf
  refine g_bipush (v := 24) hC dX11_addBytes_0 rfl ?_
  refine g_istore_n (lv' := [some (.ref (gO' Y 0)), some (.int x), some (.int 24)]) hC dX11_addBytes_2 (Nat.le_of_ble_eq_true rfl) rfl rfl ?_
  refine g_iload_n hC dX11_addBytes_3 rfl ?_
  refine g_if_lt (tgt := 27) hC dX11_addBytes_4 (by decide) (fun c1 => ?_) (fun c1 => ?_)
  · exact absurd c1 (by decide)
  · refine g_aload_n hC dX11_addBytes_7 rfl ?_
    refine g_get hC fl_X11_14 (hW.o 0 (by decide)) rfl dX11_addBytes_8 ?_
    refine g_iload_n hC dX11_addBytes_11 rfl ?_
    refine g_iload_n hC dX11_addBytes_12 rfl ?_
    refine g_iushr hC dX11_addBytes_13 ?_
    refine g_vi (fun x2 ex2 => ?_)
    refine g_sipush (v := 255) hC dX11_addBytes_14 rfl ?_
    refine g_iand hC dX11_addBytes_17 ?_
    refine g_vi (fun x3 ex3 => ?_)
    have hA1 : gAc (sN S 0) (sZ S 0) = 1 := by rw [hz, hn]; rfl
    have hA2 : gAs (gmo 0) (sN S 0) (sZ S 0) = 32 := by rw [hz, hn]; rfl
    have hA3 : gAn (gmo 0) (sN S 0) (sZ S 0) = 32 := by rw [hz, hn]; rfl
    refine g_callVv (As := [.int x3]) hC rfl (hW.r 0 (by decide)).1 (c_Ints_add X.la d b F _ _ _ _ _ _ (hW.r 0 (by decide)) x3) cl_X11_89 rfl rfl (Nat.le_of_ble_eq_true rfl) (gFit_of (Nat.le_of_ble_eq_true rfl) (Nat.le_of_ble_eq_true rfl) (by omega) (by omega)) dX11_addBytes_18 (fun F7 p8 => ?_)
    refine g_kn (k2 := 1) (n2 := 32) (by rw [hA1]) (by rw [hA2]) ?_
    obtain ⟨S9, hW10, k11, s12, a13, -⟩ := wt_add hW (by decide) p8
    have a13 := a13 (by rw [hz]; decide)
    have hN1 : sN S9 0 = 32 := a13.2.1.trans hA3
    have hZ1 : sZ S9 0 = 17 := by rw [a13.1, hz]
    have hM14 : gSm S S9 [0] [] := hM0.tr s12 _ _ rfl rfl
    have hK15 : gKp Y F F7 := hK0.tr k11
    obtain ⟨x16, ex16⟩ : ∃ y : Int32, y = 24 + (-8) := ⟨_, rfl⟩
    refine g_iinc (v := x16) (lv' := [some (.ref (gO' Y 0)), some (.int x), some (.int x16)]) hC dX11_addBytes_21 rfl (by rw [ex16]; rfl) rfl rfl ?_
    have zx16 : x16 = (16) := by rw [ex16]; decide
    subst zx16
    refine g_goto (tgt := 3) hC dX11_addBytes_24 (by decide) ?_
    refine g_iload_n hC dX11_addBytes_3 rfl ?_
    refine g_if_lt (tgt := 27) hC dX11_addBytes_4 (by decide) (fun c17 => ?_) (fun c17 => ?_)
    · exact absurd c17 (by decide)
    · refine g_aload_n hC dX11_addBytes_7 rfl ?_
      refine g_get hC fl_X11_14 (hW10.o 0 (by decide)) rfl dX11_addBytes_8 ?_
      refine g_iload_n hC dX11_addBytes_11 rfl ?_
      refine g_iload_n hC dX11_addBytes_12 rfl ?_
      refine g_iushr hC dX11_addBytes_13 ?_
      refine g_vi (fun x18 ex18 => ?_)
      refine g_sipush (v := 255) hC dX11_addBytes_14 rfl ?_
      refine g_iand hC dX11_addBytes_17 ?_
      refine g_vi (fun x19 ex19 => ?_)
      have z26 : gAc (sN S9 0) (sZ S9 0) = 0 := gAc0 (by rw [hZ1, hN1]; exact (by omega))
      have z27 : gAs (gmo 0) (sN S9 0) (sZ S9 0) = 0 := gAs0 (by rw [hZ1, hN1]; exact (by omega))
      refine g_callVv (As := [.int x19]) hC rfl (hW10.r 0 (by decide)).1 (c_Ints_add X.la d b F7 _ _ _ _ _ _ (hW10.r 0 (by decide)) x19) cl_X11_89 rfl rfl (Nat.le_of_ble_eq_true rfl) (gFit_add (Nat.le_of_ble_eq_true rfl) (Nat.le_of_ble_eq_true rfl) z26 z27 (Nat.le_of_ble_eq_true rfl) (Nat.le_of_ble_eq_true rfl)) dX11_addBytes_18 (fun F24 p25 => ?_)
      refine g_kn (k2 := 1) (n2 := 32) (by rw [z26]) (by rw [z27]) ?_
      obtain ⟨S28, hW29, k30, s31, a32, -⟩ := wt_add hW10 (by decide) p25
      have a32 := a32 (by rw [hZ1]; exact Nat.lt_of_lt_of_le (by omega) (w_mo 0))
      have hM33 : gSm S S28 [0] [] := hM14.tr s31 _ _ rfl rfl
      have hK34 : gKp Y F F24 := hK15.tr k30
      have z35 : sZ S28 0 = 18 := by rw [a32.1, hZ1]
      have z36 : sN S28 0 = 32 := by rw [a32.2.1, gAn0 (by rw [hZ1, hN1]; exact (by omega)), hN1]
      obtain ⟨x37, ex37⟩ : ∃ y : Int32, y = 16 + (-8) := ⟨_, rfl⟩
      refine g_iinc (v := x37) (lv' := [some (.ref (gO' Y 0)), some (.int x), some (.int x37)]) hC dX11_addBytes_21 rfl (by rw [ex37]; rfl) rfl rfl ?_
      have zx37 : x37 = (8) := by rw [ex37]; decide
      subst zx37
      refine g_goto (tgt := 3) hC dX11_addBytes_24 (by decide) ?_
      refine g_iload_n hC dX11_addBytes_3 rfl ?_
      refine g_if_lt (tgt := 27) hC dX11_addBytes_4 (by decide) (fun c38 => ?_) (fun c38 => ?_)
      · exact absurd c38 (by decide)
      · refine g_aload_n hC dX11_addBytes_7 rfl ?_
        refine g_get hC fl_X11_14 (hW29.o 0 (by decide)) rfl dX11_addBytes_8 ?_
        refine g_iload_n hC dX11_addBytes_11 rfl ?_
        refine g_iload_n hC dX11_addBytes_12 rfl ?_
        refine g_iushr hC dX11_addBytes_13 ?_
        refine g_vi (fun x39 ex39 => ?_)
        refine g_sipush (v := 255) hC dX11_addBytes_14 rfl ?_
        refine g_iand hC dX11_addBytes_17 ?_
        refine g_vi (fun x40 ex40 => ?_)
        have z47 : gAc (sN S28 0) (sZ S28 0) = 0 := gAc0 (by rw [z35, z36]; exact (by omega))
        have z48 : gAs (gmo 0) (sN S28 0) (sZ S28 0) = 0 := gAs0 (by rw [z35, z36]; exact (by omega))
        refine g_callVv (As := [.int x40]) hC rfl (hW29.r 0 (by decide)).1 (c_Ints_add X.la d b F24 _ _ _ _ _ _ (hW29.r 0 (by decide)) x40) cl_X11_89 rfl rfl (Nat.le_of_ble_eq_true rfl) (gFit_add (Nat.le_of_ble_eq_true rfl) (Nat.le_of_ble_eq_true rfl) z47 z48 (Nat.le_of_ble_eq_true rfl) (Nat.le_of_ble_eq_true rfl)) dX11_addBytes_18 (fun F45 p46 => ?_)
        refine g_kn (k2 := 1) (n2 := 32) (by rw [z47]) (by rw [z48]) ?_
        obtain ⟨S49, hW50, k51, s52, a53, -⟩ := wt_add hW29 (by decide) p46
        have a53 := a53 (by rw [z35]; exact Nat.lt_of_lt_of_le (by omega) (w_mo 0))
        have hM54 : gSm S S49 [0] [] := hM33.tr s52 _ _ rfl rfl
        have hK55 : gKp Y F F45 := hK34.tr k51
        have z56 : sZ S49 0 = 19 := by rw [a53.1, z35]
        have z57 : sN S49 0 = 32 := by rw [a53.2.1, gAn0 (by rw [z35, z36]; exact (by omega)), z36]
        obtain ⟨x58, ex58⟩ : ∃ y : Int32, y = 8 + (-8) := ⟨_, rfl⟩
        refine g_iinc (v := x58) (lv' := [some (.ref (gO' Y 0)), some (.int x), some (.int x58)]) hC dX11_addBytes_21 rfl (by rw [ex58]; rfl) rfl rfl ?_
        have zx58 : x58 = (0) := by rw [ex58]; decide
        subst zx58
        refine g_goto (tgt := 3) hC dX11_addBytes_24 (by decide) ?_
        refine g_iload_n hC dX11_addBytes_3 rfl ?_
        refine g_if_lt (tgt := 27) hC dX11_addBytes_4 (by decide) (fun c59 => ?_) (fun c59 => ?_)
        · exact absurd c59 (by decide)
        · refine g_aload_n hC dX11_addBytes_7 rfl ?_
          refine g_get hC fl_X11_14 (hW50.o 0 (by decide)) rfl dX11_addBytes_8 ?_
          refine g_iload_n hC dX11_addBytes_11 rfl ?_
          refine g_iload_n hC dX11_addBytes_12 rfl ?_
          refine g_iushr hC dX11_addBytes_13 ?_
          refine g_vi (fun x60 ex60 => ?_)
          refine g_sipush (v := 255) hC dX11_addBytes_14 rfl ?_
          refine g_iand hC dX11_addBytes_17 ?_
          refine g_vi (fun x61 ex61 => ?_)
          have z68 : gAc (sN S49 0) (sZ S49 0) = 0 := gAc0 (by rw [z56, z57]; exact (by omega))
          have z69 : gAs (gmo 0) (sN S49 0) (sZ S49 0) = 0 := gAs0 (by rw [z56, z57]; exact (by omega))
          refine g_callVv (As := [.int x61]) hC rfl (hW50.r 0 (by decide)).1 (c_Ints_add X.la d b F45 _ _ _ _ _ _ (hW50.r 0 (by decide)) x61) cl_X11_89 rfl rfl (Nat.le_of_ble_eq_true rfl) (gFit_add (Nat.le_of_ble_eq_true rfl) (Nat.le_of_ble_eq_true rfl) z68 z69 (Nat.le_of_ble_eq_true rfl) (Nat.le_of_ble_eq_true rfl)) dX11_addBytes_18 (fun F66 p67 => ?_)
          refine g_kn (k2 := 1) (n2 := 32) (by rw [z68]) (by rw [z69]) ?_
          obtain ⟨S70, hW71, k72, s73, a74, -⟩ := wt_add hW50 (by decide) p67
          have a74 := a74 (by rw [z56]; exact Nat.lt_of_lt_of_le (by omega) (w_mo 0))
          have hM75 : gSm S S70 [0] [] := hM54.tr s73 _ _ rfl rfl
          have hK76 : gKp Y F F66 := hK55.tr k72
          have z77 : sZ S70 0 = 20 := by rw [a74.1, z56]
          have z78 : sN S70 0 = 32 := by rw [a74.2.1, gAn0 (by rw [z56, z57]; exact (by omega)), z57]
          obtain ⟨x79, ex79⟩ : ∃ y : Int32, y = 0 + (-8) := ⟨_, rfl⟩
          refine g_iinc (v := x79) (lv' := [some (.ref (gO' Y 0)), some (.int x), some (.int x79)]) hC dX11_addBytes_21 rfl (by rw [ex79]; rfl) rfl rfl ?_
          have zx79 : x79 = (-8) := by rw [ex79]; decide
          subst zx79
          refine g_goto (tgt := 3) hC dX11_addBytes_24 (by decide) ?_
          refine g_iload_n hC dX11_addBytes_3 rfl ?_
          refine g_if_lt (tgt := 27) hC dX11_addBytes_4 (by decide) (fun c80 => ?_) (fun c80 => ?_)
          · exact g_vret hC ⟨S70, hW71, hK76, hM75, z77, z78⟩ (by first | exact Nat.le_of_ble_eq_true rfl | omega | (simp only [gR]; omega)) (by first | exact Nat.le_of_ble_eq_true rfl | omega | (simp only [gR]; omega)) dX11_addBytes_27
          · exact absurd (by decide) c80
theorem dX11_feed_0 : decode cX11_feed 0 = .ok (.aload_n 0, 1) := by decide +kernel
theorem dX11_feed_1 : decode cX11_feed 1 = .ok (.getfield 14, 3) := by decide +kernel
theorem dX11_feed_4 : decode cX11_feed 4 = .ok (.invokevirtual 82, 3) := by decide +kernel
theorem dX11_feed_7 : decode cX11_feed 7 = .ok (.bipush 20, 2) := by decide +kernel
theorem dX11_feed_9 : decode cX11_feed 9 = .ok (.iadd, 1) := by decide +kernel
theorem dX11_feed_10 : decode cX11_feed 10 = .ok (.sipush 6000, 3) := by decide +kernel
theorem dX11_feed_13 : decode cX11_feed 13 = .ok (.if_icmp .le 5, 3) := by decide +kernel
theorem dX11_feed_16 : decode cX11_feed 16 = .ok (.iconst 0, 1) := by decide +kernel
theorem dX11_feed_17 : decode cX11_feed 17 = .ok (.ireturn, 1) := by decide +kernel
theorem dX11_feed_18 : decode cX11_feed 18 = .ok (.aload_n 0, 1) := by decide +kernel
theorem dX11_feed_19 : decode cX11_feed 19 = .ok (.iload_n 1, 1) := by decide +kernel
theorem dX11_feed_20 : decode cX11_feed 20 = .ok (.invokevirtual 86, 3) := by decide +kernel
theorem dX11_feed_23 : decode cX11_feed 23 = .ok (.aload_n 0, 1) := by decide +kernel
theorem dX11_feed_24 : decode cX11_feed 24 = .ok (.iload_n 2, 1) := by decide +kernel
theorem dX11_feed_25 : decode cX11_feed 25 = .ok (.invokevirtual 86, 3) := by decide +kernel
theorem dX11_feed_28 : decode cX11_feed 28 = .ok (.aload_n 0, 1) := by decide +kernel
theorem dX11_feed_29 : decode cX11_feed 29 = .ok (.iload_n 3, 1) := by decide +kernel
theorem dX11_feed_30 : decode cX11_feed 30 = .ok (.invokevirtual 86, 3) := by decide +kernel
theorem dX11_feed_33 : decode cX11_feed 33 = .ok (.aload_n 0, 1) := by decide +kernel
theorem dX11_feed_34 : decode cX11_feed 34 = .ok (.iload 4, 2) := by decide +kernel
theorem dX11_feed_36 : decode cX11_feed 36 = .ok (.invokevirtual 86, 3) := by decide +kernel
theorem dX11_feed_39 : decode cX11_feed 39 = .ok (.aload_n 0, 1) := by decide +kernel
theorem dX11_feed_40 : decode cX11_feed 40 = .ok (.iload 5, 2) := by decide +kernel
theorem dX11_feed_42 : decode cX11_feed 42 = .ok (.invokevirtual 86, 3) := by decide +kernel
theorem dX11_feed_45 : decode cX11_feed 45 = .ok (.iconst 1, 1) := by decide +kernel
theorem dX11_feed_46 : decode cX11_feed 46 = .ok (.ireturn, 1) := by decide +kernel
set_option maxHeartbeats 4000000 in
set_option maxRecDepth 100000 in
theorem c_W_feed0 (l : Launch) (d : gD) (b : Nat) (Y : gYt) (F : gM) (S : gSt) (hW : gWT d Y F S) (hz0 : sZ S 0 = 0) (hn0 : sN S 0 = 16) (i1 i2 i3 i4 i5 : Int32) : gMi l d b yX11_feed cX11_feed 6 .boolean 4 1 32 F [.ref (gO' Y 0), .int i1, .int i2, .int i3, .int i4, .int i5] (fun r F' => r = 1 ∧ ∃ S', gWT d Y F' S' ∧ gKp Y F F' ∧ gSm S S' [0] []) := by
  refine gM_of2 rfl (nL := 6) (Nat.le_of_ble_eq_true rfl) ?_
  intro X hX hC; subst hX
  show gG X d b _ F 0 0 0 [some (.ref (gO' Y 0)), some (.int i1), some (.int i2), some (.int i3), some (.int i4), some (.int i5)] []
  have hM0 : gSm S S [0] [] := gSm.rf
  have hK0 : gKp Y F F := gKp.rf
  refine g_aload_n hC dX11_feed_0 rfl ?_
  refine g_get hC fl_X11_14 (hW.o 0 (by decide)) rfl dX11_feed_1 ?_
  refine g_callVi (As := []) hC rfl (hW.r 0 (by decide)).1 (c_Ints_size X.la d b F _ _ _ _ _ _ (hW.r 0 (by decide))) cl_X11_82 rfl rfl (Nat.le_of_ble_eq_true rfl) (gFit_of (Nat.le_of_ble_eq_true rfl) (Nat.le_of_ble_eq_true rfl) (by first | exact Nat.le_of_ble_eq_true rfl | omega | (simp only [gR]; omega)) (by first | exact Nat.le_of_ble_eq_true rfl | omega | (simp only [gR]; omega))) dX11_feed_4 (fun r1 F2 p3 => ?_)
  obtain ⟨rfl, eF2⟩ := p3; have eF2 := eF2.symm; subst eF2
  refine g_bipush (v := 20) hC dX11_feed_7 rfl ?_
  refine g_iadd hC dX11_feed_9 ?_
  refine g_vi (fun x4 ex4 => ?_)
  refine g_sipush (v := 6000) hC dX11_feed_10 rfl ?_
  refine g_icmp_le (tgt := 18) hC dX11_feed_13 (by decide) (fun c5 => ?_) (fun c5 => ?_)
  · refine g_aload_n hC dX11_feed_18 rfl ?_
    refine g_iload_n hC dX11_feed_19 rfl ?_
    refine g_callVv (As := [.int i1]) hC rfl (hW.o 0 (by decide)) (c_W_addBytes X.la d b Y F S hW i1 0 hz0 hn0 (by decide)) cl_X11_86 rfl rfl (Nat.le_of_ble_eq_true rfl) (gFit_of (Nat.le_of_ble_eq_true rfl) (Nat.le_of_ble_eq_true rfl) (by first | exact Nat.le_of_ble_eq_true rfl | omega | (simp only [gR]; omega)) (by first | exact Nat.le_of_ble_eq_true rfl | omega | (simp only [gR]; omega))) dX11_feed_20 (fun F6 p7 => ?_)
    obtain ⟨S9, hW10, k11, s12, y13, y14⟩ := p7
    have hM15 : gSm S S9 [0] [] := hM0.tr s12 _ _ rfl rfl
    have hK16 : gKp Y F F6 := hK0.tr k11
    have z17 : sZ S9 0 = 4 := y13.trans (by decide)
    clear hz0 hn0 hM0 hK0 s12 k11 hW
    refine g_aload_n hC dX11_feed_23 rfl ?_
    refine g_iload_n hC dX11_feed_24 rfl ?_
    refine g_callVv (As := [.int i2]) hC rfl (hW10.o 0 (by decide)) (c_W_addBytes X.la d b Y F6 S9 hW10 i2 4 z17 y14 (by decide)) cl_X11_86 rfl rfl (Nat.le_of_ble_eq_true rfl) (gFit_of (Nat.le_of_ble_eq_true rfl) (Nat.le_of_ble_eq_true rfl) (by first | exact Nat.le_of_ble_eq_true rfl | omega | (simp only [gR]; omega)) (by first | exact Nat.le_of_ble_eq_true rfl | omega | (simp only [gR]; omega))) dX11_feed_25 (fun F18 p19 => ?_)
    obtain ⟨S21, hW22, k23, s24, y25, y26⟩ := p19
    have hM27 : gSm S S21 [0] [] := hM15.tr s24 _ _ rfl rfl
    have hK28 : gKp Y F F18 := hK16.tr k23
    have z29 : sZ S21 0 = 8 := y25.trans (by decide)
    clear z17 y14 hM15 hK16 s24 k23 hW10
    refine g_aload_n hC dX11_feed_28 rfl ?_
    refine g_iload_n hC dX11_feed_29 rfl ?_
    refine g_callVv (As := [.int i3]) hC rfl (hW22.o 0 (by decide)) (c_W_addBytes X.la d b Y F18 S21 hW22 i3 8 z29 y26 (by decide)) cl_X11_86 rfl rfl (Nat.le_of_ble_eq_true rfl) (gFit_of (Nat.le_of_ble_eq_true rfl) (Nat.le_of_ble_eq_true rfl) (by first | exact Nat.le_of_ble_eq_true rfl | omega | (simp only [gR]; omega)) (by first | exact Nat.le_of_ble_eq_true rfl | omega | (simp only [gR]; omega))) dX11_feed_30 (fun F30 p31 => ?_)
    obtain ⟨S33, hW34, k35, s36, y37, y38⟩ := p31
    have hM39 : gSm S S33 [0] [] := hM27.tr s36 _ _ rfl rfl
    have hK40 : gKp Y F F30 := hK28.tr k35
    have z41 : sZ S33 0 = 12 := y37.trans (by decide)
    clear z29 y26 hM27 hK28 s36 k35 hW22
    refine g_aload_n hC dX11_feed_33 rfl ?_
    refine g_iload hC dX11_feed_34 rfl ?_
    refine g_callVv (As := [.int i4]) hC rfl (hW34.o 0 (by decide)) (c_W_addBytes X.la d b Y F30 S33 hW34 i4 12 z41 y38 (by decide)) cl_X11_86 rfl rfl (Nat.le_of_ble_eq_true rfl) (gFit_of (Nat.le_of_ble_eq_true rfl) (Nat.le_of_ble_eq_true rfl) (by first | exact Nat.le_of_ble_eq_true rfl | omega | (simp only [gR]; omega)) (by first | exact Nat.le_of_ble_eq_true rfl | omega | (simp only [gR]; omega))) dX11_feed_36 (fun F42 p43 => ?_)
    obtain ⟨S45, hW46, k47, s48, y49, y50⟩ := p43
    have hM51 : gSm S S45 [0] [] := hM39.tr s48 _ _ rfl rfl
    have hK52 : gKp Y F F42 := hK40.tr k47
    have z53 : sZ S45 0 = 16 := y49.trans (by decide)
    clear z41 y38 hM39 hK40 s48 k47 hW34
    refine g_aload_n hC dX11_feed_39 rfl ?_
    refine g_iload hC dX11_feed_40 rfl ?_
    refine g_callVv (As := [.int i5]) hC rfl (hW46.o 0 (by decide)) (c_W_addBytesG X.la d b Y F42 S45 hW46 i5 z53 y50) cl_X11_86 rfl rfl (Nat.le_of_ble_eq_true rfl) (gFit_of (Nat.le_of_ble_eq_true rfl) (Nat.le_of_ble_eq_true rfl) (by first | exact Nat.le_of_ble_eq_true rfl | omega | (simp only [gR]; omega)) (by first | exact Nat.le_of_ble_eq_true rfl | omega | (simp only [gR]; omega))) dX11_feed_42 (fun F54 p55 => ?_)
    obtain ⟨S57, hW58, k59, s60, y61, y62⟩ := p55
    have hM63 : gSm S S57 [0] [] := hM51.tr s60 _ _ rfl rfl
    have hK64 : gKp Y F F54 := hK52.tr k59
    have z65 : sZ S57 0 = 20 := y61.trans (by decide)
    clear z53 y50 hM51 hK52 s60 k59 hW46
    refine g_iconst (v := 1) hC dX11_feed_45 rfl ?_
    exact g_iret hC rfl ⟨rfl, S57, hW58, hK64, hM63⟩ (by first | exact Nat.le_of_ble_eq_true rfl | omega | (simp only [gR]; omega)) (by first | exact Nat.le_of_ble_eq_true rfl | omega | (simp only [gR]; omega)) dX11_feed_46
  · rw [hz0] at ex4; subst ex4
    exact absurd (by decide) c5
end
section
theorem kw_1606 : Cond.constant RJ6 265 1431655765 ∈ gWs := gWm 1606 (by decide +kernel) rfl
theorem kw_1607 : Cond.constant RJ6 266 858993459 ∈ gWs := gWm 1607 (by decide +kernel) rfl
theorem kw_1608 : Cond.constant RJ6 267 252645135 ∈ gWs := gWm 1608 (by decide +kernel) rfl
theorem kw_1602 : Cond.constant RX11 123 65536 ∈ gWs := gWm 1602 (by decide +kernel) rfl
theorem kw_262 : Cond.initialized RJ6 ∈ gWs := gWm 262 (by decide +kernel) rfl
theorem kw_1605 : Cond.code yJ6_bitCount_0f7a4 cJ6_bitCount_0f7a4 1 (some .int) ∈ gWs := gWm 1605 (by decide +kernel) rfl
theorem kw_1603 : Cond.methodLink RX11 124 yJ6_bitCount_0f7a4 ∈ gWs := gWm 1603 (by decide +kernel) rfl
theorem kw_1604 : Cond.static yJ6_bitCount_0f7a4 ∈ gWs := gWm 1604 (by decide +kernel) rfl
theorem cl_X11_124 : gCS RX11 124 yJ6_bitCount_0f7a4 cJ6_bitCount_0f7a4 1 (some .int) 1 := ⟨g_mk [.methodLink RX11 124 yJ6_bitCount_0f7a4, .static yJ6_bitCount_0f7a4, .initialized yJ6_bitCount_0f7a4.cls] (gWs_all kw_1605) (List.forall_mem_cons.mpr ⟨kw_1603, List.forall_mem_cons.mpr ⟨kw_1604, List.forall_mem_cons.mpr ⟨kw_262, fun _ h => nomatch h⟩⟩⟩), ⟨by decide +kernel, by decide +kernel, by decide +kernel⟩⟩
theorem kw_1910 : Cond.classLink RX11 147 "java/util/NoSuchElementException" ∈ gWs := gWm 1910 (by decide +kernel) rfl
theorem kw_263 : Cond.initialized "java/util/NoSuchElementException" ∈ gWs := gWm 263 (by decide +kernel) rfl
theorem kw_808 : Cond.fieldLink RX11 79 "WordTongue" "goodWords" "I" ∈ gWs := gWm 808 (by decide +kernel) rfl
theorem fl_X11_79 : gFL RX11 79 11 9 .int false := ⟨RX11, TX11, 10, tyX11, rfl, by decide, inW_RX11, kw_808, tyX11_ok, nmX11, rfl, by decide +kernel, fun h => by cases h⟩
theorem kw_1945 : Cond.code yX5_left cX5_left 2 (some .int) ∈ gWs := gWm 1945 (by decide +kernel) rfl
theorem kw_1942 : Cond.methodLink RX11 154 yX5_left ∈ gWs := gWm 1942 (by decide +kernel) rfl
theorem kw_1943 : Cond.instanceMethod yX5_left ∈ gWs := gWm 1943 (by decide +kernel) rfl
theorem kw_1944 : Cond.selects RX5 yX5_left yX5_left ∈ gWs := gWm 1944 (by decide +kernel) rfl
theorem cl_X11_154 : gCV RX11 154 yX5_left cX5_left 2 (some .int) 1 := ⟨g_mk [.methodLink RX11 154 yX5_left, .instanceMethod yX5_left, .selects yX5_left.cls yX5_left yX5_left, .initialized yX5_left.cls] (gWs_all kw_1945) (List.forall_mem_cons.mpr ⟨kw_1942, List.forall_mem_cons.mpr ⟨kw_1943, List.forall_mem_cons.mpr ⟨kw_1944, List.forall_mem_cons.mpr ⟨kw_255, fun _ h => nomatch h⟩⟩⟩⟩), rfl, by decide +kernel, by decide +kernel, by decide +kernel⟩
def gU (x y : Int32) : Int32 := (x.toUInt32 >>> (y.toUInt32 &&& Int32.toUInt32 31)).toInt32
def gBc (i : Int32) : Int32 :=
  let a := i - (gU i 1 &&& 1431655765)
  let b := (a &&& 858993459) + (gU a 2 &&& 858993459)
  let c := (b + gU b 4) &&& 252645135
  let e := c + gU c 8
  let f := e + gU e 16
  f &&& 63
theorem dJ6_bitCount_0f7a4_0 : decode cJ6_bitCount_0f7a4 0 = .ok (.iload_n 0, 1) := by decide +kernel
theorem dJ6_bitCount_0f7a4_1 : decode cJ6_bitCount_0f7a4 1 = .ok (.iload_n 0, 1) := by decide +kernel
theorem dJ6_bitCount_0f7a4_2 : decode cJ6_bitCount_0f7a4 2 = .ok (.iconst 1, 1) := by decide +kernel
theorem dJ6_bitCount_0f7a4_3 : decode cJ6_bitCount_0f7a4 3 = .ok (.iushr, 1) := by decide +kernel
theorem dJ6_bitCount_0f7a4_4 : decode cJ6_bitCount_0f7a4 4 = .ok (.ldc_w 265, 3) := by decide +kernel
theorem dJ6_bitCount_0f7a4_7 : decode cJ6_bitCount_0f7a4 7 = .ok (.iand, 1) := by decide +kernel
theorem dJ6_bitCount_0f7a4_8 : decode cJ6_bitCount_0f7a4 8 = .ok (.isub, 1) := by decide +kernel
theorem dJ6_bitCount_0f7a4_9 : decode cJ6_bitCount_0f7a4 9 = .ok (.istore_n 0, 1) := by decide +kernel
theorem dJ6_bitCount_0f7a4_10 : decode cJ6_bitCount_0f7a4 10 = .ok (.iload_n 0, 1) := by decide +kernel
theorem dJ6_bitCount_0f7a4_11 : decode cJ6_bitCount_0f7a4 11 = .ok (.ldc_w 266, 3) := by decide +kernel
theorem dJ6_bitCount_0f7a4_14 : decode cJ6_bitCount_0f7a4 14 = .ok (.iand, 1) := by decide +kernel
theorem dJ6_bitCount_0f7a4_15 : decode cJ6_bitCount_0f7a4 15 = .ok (.iload_n 0, 1) := by decide +kernel
theorem dJ6_bitCount_0f7a4_16 : decode cJ6_bitCount_0f7a4 16 = .ok (.iconst 2, 1) := by decide +kernel
theorem dJ6_bitCount_0f7a4_17 : decode cJ6_bitCount_0f7a4 17 = .ok (.iushr, 1) := by decide +kernel
theorem dJ6_bitCount_0f7a4_18 : decode cJ6_bitCount_0f7a4 18 = .ok (.ldc_w 266, 3) := by decide +kernel
theorem dJ6_bitCount_0f7a4_21 : decode cJ6_bitCount_0f7a4 21 = .ok (.iand, 1) := by decide +kernel
theorem dJ6_bitCount_0f7a4_22 : decode cJ6_bitCount_0f7a4 22 = .ok (.iadd, 1) := by decide +kernel
theorem dJ6_bitCount_0f7a4_23 : decode cJ6_bitCount_0f7a4 23 = .ok (.istore_n 0, 1) := by decide +kernel
theorem dJ6_bitCount_0f7a4_24 : decode cJ6_bitCount_0f7a4 24 = .ok (.iload_n 0, 1) := by decide +kernel
theorem dJ6_bitCount_0f7a4_25 : decode cJ6_bitCount_0f7a4 25 = .ok (.iload_n 0, 1) := by decide +kernel
theorem dJ6_bitCount_0f7a4_26 : decode cJ6_bitCount_0f7a4 26 = .ok (.iconst 4, 1) := by decide +kernel
theorem dJ6_bitCount_0f7a4_27 : decode cJ6_bitCount_0f7a4 27 = .ok (.iushr, 1) := by decide +kernel
theorem dJ6_bitCount_0f7a4_28 : decode cJ6_bitCount_0f7a4 28 = .ok (.iadd, 1) := by decide +kernel
theorem dJ6_bitCount_0f7a4_29 : decode cJ6_bitCount_0f7a4 29 = .ok (.ldc_w 267, 3) := by decide +kernel
theorem dJ6_bitCount_0f7a4_32 : decode cJ6_bitCount_0f7a4 32 = .ok (.iand, 1) := by decide +kernel
theorem dJ6_bitCount_0f7a4_33 : decode cJ6_bitCount_0f7a4 33 = .ok (.istore_n 0, 1) := by decide +kernel
theorem dJ6_bitCount_0f7a4_34 : decode cJ6_bitCount_0f7a4 34 = .ok (.iload_n 0, 1) := by decide +kernel
theorem dJ6_bitCount_0f7a4_35 : decode cJ6_bitCount_0f7a4 35 = .ok (.iload_n 0, 1) := by decide +kernel
theorem dJ6_bitCount_0f7a4_36 : decode cJ6_bitCount_0f7a4 36 = .ok (.bipush 8, 2) := by decide +kernel
theorem dJ6_bitCount_0f7a4_38 : decode cJ6_bitCount_0f7a4 38 = .ok (.iushr, 1) := by decide +kernel
theorem dJ6_bitCount_0f7a4_39 : decode cJ6_bitCount_0f7a4 39 = .ok (.iadd, 1) := by decide +kernel
theorem dJ6_bitCount_0f7a4_40 : decode cJ6_bitCount_0f7a4 40 = .ok (.istore_n 0, 1) := by decide +kernel
theorem dJ6_bitCount_0f7a4_41 : decode cJ6_bitCount_0f7a4 41 = .ok (.iload_n 0, 1) := by decide +kernel
theorem dJ6_bitCount_0f7a4_42 : decode cJ6_bitCount_0f7a4 42 = .ok (.iload_n 0, 1) := by decide +kernel
theorem dJ6_bitCount_0f7a4_43 : decode cJ6_bitCount_0f7a4 43 = .ok (.bipush 16, 2) := by decide +kernel
theorem dJ6_bitCount_0f7a4_45 : decode cJ6_bitCount_0f7a4 45 = .ok (.iushr, 1) := by decide +kernel
theorem dJ6_bitCount_0f7a4_46 : decode cJ6_bitCount_0f7a4 46 = .ok (.iadd, 1) := by decide +kernel
theorem dJ6_bitCount_0f7a4_47 : decode cJ6_bitCount_0f7a4 47 = .ok (.istore_n 0, 1) := by decide +kernel
theorem dJ6_bitCount_0f7a4_48 : decode cJ6_bitCount_0f7a4 48 = .ok (.iload_n 0, 1) := by decide +kernel
theorem dJ6_bitCount_0f7a4_49 : decode cJ6_bitCount_0f7a4 49 = .ok (.bipush 63, 2) := by decide +kernel
theorem dJ6_bitCount_0f7a4_51 : decode cJ6_bitCount_0f7a4 51 = .ok (.iand, 1) := by decide +kernel
theorem dJ6_bitCount_0f7a4_52 : decode cJ6_bitCount_0f7a4 52 = .ok (.ireturn, 1) := by decide +kernel
set_option maxHeartbeats 4000000 in
set_option maxRecDepth 100000 in
theorem c_bitCount (l : Launch) (d : gD) (b : Nat) (F : gM) (i : Int32) : gMi l d b yJ6_bitCount_0f7a4 cJ6_bitCount_0f7a4 1 .int 0 0 0 F [.int i] (fun r F' => r = gBc i ∧ F' = F) := by
  refine gM_of2 rfl (nL := 1) (Nat.le_of_ble_eq_true rfl) ?_
  intro X hX hC; subst hX
  show gG X d b _ F 0 0 0 [some (.int i)] []
  refine g_iload_n hC dJ6_bitCount_0f7a4_0 rfl ?_
  refine g_iload_n hC dJ6_bitCount_0f7a4_1 rfl ?_
  refine g_iconst (v := 1) hC dJ6_bitCount_0f7a4_2 rfl ?_
  refine g_iushr hC dJ6_bitCount_0f7a4_3 ?_
  refine g_vi (fun x1 ex1 => ?_)
  refine g_ldcw hC dJ6_bitCount_0f7a4_4 kw_1606 ?_
  refine g_iand hC dJ6_bitCount_0f7a4_7 ?_
  refine g_vi (fun x2 ex2 => ?_)
  refine g_isub hC dJ6_bitCount_0f7a4_8 ?_
  refine g_vi (fun x3 ex3 => ?_)
  refine g_istore_n (lv' := [some (.int x3)]) hC dJ6_bitCount_0f7a4_9 (Nat.le_of_ble_eq_true rfl) rfl rfl ?_
  refine g_iload_n hC dJ6_bitCount_0f7a4_10 rfl ?_
  refine g_ldcw hC dJ6_bitCount_0f7a4_11 kw_1607 ?_
  refine g_iand hC dJ6_bitCount_0f7a4_14 ?_
  refine g_vi (fun x4 ex4 => ?_)
  refine g_iload_n hC dJ6_bitCount_0f7a4_15 rfl ?_
  refine g_iconst (v := 2) hC dJ6_bitCount_0f7a4_16 rfl ?_
  refine g_iushr hC dJ6_bitCount_0f7a4_17 ?_
  refine g_vi (fun x5 ex5 => ?_)
  refine g_ldcw hC dJ6_bitCount_0f7a4_18 kw_1607 ?_
  refine g_iand hC dJ6_bitCount_0f7a4_21 ?_
  refine g_vi (fun x6 ex6 => ?_)
  refine g_iadd hC dJ6_bitCount_0f7a4_22 ?_
  refine g_vi (fun x7 ex7 => ?_)
  refine g_istore_n (lv' := [some (.int x7)]) hC dJ6_bitCount_0f7a4_23 (Nat.le_of_ble_eq_true rfl) rfl rfl ?_
  refine g_iload_n hC dJ6_bitCount_0f7a4_24 rfl ?_
  refine g_iload_n hC dJ6_bitCount_0f7a4_25 rfl ?_
  refine g_iconst (v := 4) hC dJ6_bitCount_0f7a4_26 rfl ?_
  refine g_iushr hC dJ6_bitCount_0f7a4_27 ?_
  refine g_vi (fun x8 ex8 => ?_)
  refine g_iadd hC dJ6_bitCount_0f7a4_28 ?_
  refine g_vi (fun x9 ex9 => ?_)
  refine g_ldcw hC dJ6_bitCount_0f7a4_29 kw_1608 ?_
  refine g_iand hC dJ6_bitCount_0f7a4_32 ?_
  refine g_vi (fun x10 ex10 => ?_)
  refine g_istore_n (lv' := [some (.int x10)]) hC dJ6_bitCount_0f7a4_33 (Nat.le_of_ble_eq_true rfl) rfl rfl ?_
  refine g_iload_n hC dJ6_bitCount_0f7a4_34 rfl ?_
  refine g_iload_n hC dJ6_bitCount_0f7a4_35 rfl ?_
  refine g_bipush (v := 8) hC dJ6_bitCount_0f7a4_36 rfl ?_
  refine g_iushr hC dJ6_bitCount_0f7a4_38 ?_
  refine g_vi (fun x11 ex11 => ?_)
  refine g_iadd hC dJ6_bitCount_0f7a4_39 ?_
  refine g_vi (fun x12 ex12 => ?_)
  refine g_istore_n (lv' := [some (.int x12)]) hC dJ6_bitCount_0f7a4_40 (Nat.le_of_ble_eq_true rfl) rfl rfl ?_
  refine g_iload_n hC dJ6_bitCount_0f7a4_41 rfl ?_
  refine g_iload_n hC dJ6_bitCount_0f7a4_42 rfl ?_
  refine g_bipush (v := 16) hC dJ6_bitCount_0f7a4_43 rfl ?_
  refine g_iushr hC dJ6_bitCount_0f7a4_45 ?_
  refine g_vi (fun x13 ex13 => ?_)
  refine g_iadd hC dJ6_bitCount_0f7a4_46 ?_
  refine g_vi (fun x14 ex14 => ?_)
  refine g_istore_n (lv' := [some (.int x14)]) hC dJ6_bitCount_0f7a4_47 (Nat.le_of_ble_eq_true rfl) rfl rfl ?_
  refine g_iload_n hC dJ6_bitCount_0f7a4_48 rfl ?_
  refine g_bipush (v := 63) hC dJ6_bitCount_0f7a4_49 rfl ?_
  refine g_iand hC dJ6_bitCount_0f7a4_51 ?_
  refine g_vi (fun x15 ex15 => ?_)
  exact g_iret hC rfl ⟨by subst_vars; rfl, rfl⟩ (by first | exact Nat.le_of_ble_eq_true rfl | omega | (simp only [gR]; omega)) (by first | exact Nat.le_of_ble_eq_true rfl | omega | (simp only [gR]; omega)) dJ6_bitCount_0f7a4_52
theorem nI_and (a b : Nat) : nI a &&& nI b = nI (a &&& b) := by
  apply Int32.toBitVec_inj.mp
  rw [Int32.toBitVec_and]
  show BitVec.ofNat 32 a &&& BitVec.ofNat 32 b = BitVec.ofNat 32 (a &&& b)
  apply BitVec.eq_of_toNat_eq
  rw [BitVec.toNat_and, BitVec.toNat_ofNat, BitVec.toNat_ofNat, BitVec.toNat_ofNat, Nat.and_mod_two_pow]
theorem gU1 {n : Nat} (h : n < 2 ^ 32) : gU (nI n) 1 = nI (n / 2) := pk_ushrN h 1 1 (by decide)
theorem gU2 {n : Nat} (h : n < 2 ^ 32) : gU (nI n) 2 = nI (n / 4) := pk_ushrN h 2 2 (by decide)
theorem gU4 {n : Nat} (h : n < 2 ^ 32) : gU (nI n) 4 = nI (n / 16) := pk_ushrN h 4 4 (by decide)
theorem gU8 {n : Nat} (h : n < 2 ^ 32) : gU (nI n) 8 = nI (n / 256) := pk_ushrN h 8 8 (by decide)
theorem gU16 {n : Nat} (h : n < 2 ^ 32) : gU (nI n) 16 = nI (n / 65536) := pk_ushrN h 16 16 (by decide)
def bcA (j : Nat) : Nat := Nat.sub j (Nat.land (Nat.div j 2) 1431655765)
def bcB (a : Nat) : Nat := Nat.add (Nat.land a 858993459) (Nat.land (Nat.div a 4) 858993459)
def bcC (b : Nat) : Nat := Nat.land (Nat.add b (Nat.div b 16)) 252645135
def bcE (c : Nat) : Nat := Nat.add c (Nat.div c 256)
def bcF (e : Nat) : Nat := Nat.add e (Nat.div e 65536)
def bcN (j : Nat) : Nat := Nat.land (bcF (bcE (bcC (bcB (bcA j))))) 63
theorem gBc_n {j : Nat} (h : j ≤ 65536) : gBc (nI j) = nI (bcN j) := by
  have l1 : ∀ x y : Nat, Nat.land x y ≤ x := fun x y => Nat.and_le_left
  have a1 : Nat.land (Nat.div j 2) 1431655765 ≤ j := Nat.le_trans (l1 _ _) (Nat.div_le_self _ _)
  have ha : bcA j ≤ 65536 := Nat.le_trans (Nat.sub_le _ _) h
  have hb : bcB (bcA j) ≤ 131072 := Nat.le_trans (Nat.add_le_add (l1 _ _) (Nat.le_trans (l1 _ _) (Nat.div_le_self _ _))) (by omega)
  have hc : bcC (bcB (bcA j)) ≤ 262144 := Nat.le_trans (l1 _ _) (Nat.le_trans (Nat.add_le_add hb (Nat.le_trans (Nat.div_le_self _ _) hb)) (by omega))
  have he : bcE (bcC (bcB (bcA j))) ≤ 524288 := Nat.le_trans (Nat.add_le_add hc (Nat.le_trans (Nat.div_le_self _ _) hc)) (by omega)
  have e1 : nI j - (gU (nI j) 1 &&& 1431655765) = nI (bcA j) := by
    rw [gU1 (by omega), show (1431655765 : Int32) = nI 1431655765 from rfl, nI_and]
    exact pk_sub a1
  have e2 : (nI (bcA j) &&& 858993459) + (gU (nI (bcA j)) 2 &&& 858993459) = nI (bcB (bcA j)) := by
    rw [gU2 (by omega), show (858993459 : Int32) = nI 858993459 from rfl, nI_and, nI_and, nI_add]
    rfl
  have e3 : (nI (bcB (bcA j)) + gU (nI (bcB (bcA j))) 4) &&& 252645135 = nI (bcC (bcB (bcA j))) := by
    rw [gU4 (by omega), nI_add, show (252645135 : Int32) = nI 252645135 from rfl, nI_and]
    rfl
  have e4 : nI (bcC (bcB (bcA j))) + gU (nI (bcC (bcB (bcA j)))) 8 = nI (bcE (bcC (bcB (bcA j)))) := by
    rw [gU8 (by omega), nI_add]
    rfl
  have e5 : nI (bcE (bcC (bcB (bcA j)))) + gU (nI (bcE (bcC (bcB (bcA j))))) 16 = nI (bcF (bcE (bcC (bcB (bcA j))))) := by
    rw [gU16 (by omega), nI_add]
    rfl
  unfold gBc
  simp only [e1, e2, e3, e4, e5]
  rw [show (63 : Int32) = nI 63 from rfl, nI_and]
  rfl
def bcT (j : Nat) : Bool := Nat.blt j 4096 || ((Nat.beq (bcN j) 1) == (Nat.beq j 4096 || (Nat.beq j 8192 || (Nat.beq j 16384 || (Nat.beq j 32768 || Nat.beq j 65536)))))
def bcK : Nat → Nat → Bool
  | 0, lo => bcT lo
  | k + 1, lo => bcK k lo && bcK k (Nat.add lo (Nat.pow 2 k))
theorem bcK_all : ∀ (k lo : Nat), bcK k lo = true → ∀ j, lo ≤ j → j < lo + 2 ^ k → bcT j = true
  | 0, lo, h, j, h1, h2 => by
    have e : j = lo := by omega
    rw [e]; exact h
  | k + 1, lo, h, j, h1, h2 => by
    have h' : (bcK k lo && bcK k (lo + 2 ^ k)) = true := h
    rw [Bool.and_eq_true] at h'
    by_cases c : j < lo + 2 ^ k
    · exact bcK_all k lo h'.1 j h1 c
    · exact bcK_all k (lo + 2 ^ k) h'.2 j (by omega) (by rw [Nat.pow_succ] at h2; omega)
set_option maxRecDepth 100000 in
theorem bcK_ok : bcK 16 0 = true := by decide +kernel
theorem bcT_top : bcT 65536 = true := by decide +kernel
def gFive (i : Int32) : Prop := i = 4096 ∨ i = 8192 ∨ i = 16384 ∨ i = 32768 ∨ i = 65536
theorem gBc_ok {i : Int32} (h1 : ¬ i < 4096) (h2 : ¬ 65536 < i) : gBc i = 1 ↔ gFive i := by
  have h0 : ¬ i < 0 := fun q => h1 (by
    have a := Int32.lt_iff_toInt_lt.mp q
    exact Int32.lt_iff_toInt_lt.mpr (Int.lt_trans a (by decide)))
  obtain ⟨j, hj, rfl⟩ := nI_of h0
  have g1 : 4096 ≤ j := Nat.not_lt.mp fun q => h1 (nI_lt (b := 4096) q (by decide))
  have g2 : j ≤ 65536 := Nat.not_lt.mp fun q => h2 (nI_lt (a := 65536) q hj)
  have hT : bcT j = true := by
    rcases Nat.lt_or_ge j 65536 with q | q
    · exact bcK_all 16 0 bcK_ok j (Nat.zero_le j) (by omega)
    · rw [show j = 65536 by omega]; exact bcT_top
  have hlt : bcN j < 2 ^ 31 := Nat.lt_of_le_of_lt (show Nat.land _ 63 ≤ 63 from Nat.and_le_right) (by decide)
  have k1 : gBc (nI j) = 1 ↔ bcN j = 1 := by
    rw [gBc_n g2, show (1 : Int32) = nI 1 from rfl]
    exact nI_eq hlt (by decide)
  have k2 : ∀ n : Nat, n < 2 ^ 31 → (nI j = nI n ↔ j = n) := fun n hn => nI_eq hj hn
  rw [k1]
  unfold gFive
  rw [show (4096 : Int32) = nI 4096 from rfl, show (8192 : Int32) = nI 8192 from rfl, show (16384 : Int32) = nI 16384 from rfl, show (32768 : Int32) = nI 32768 from rfl, show (65536 : Int32) = nI 65536 from rfl, k2 _ (by decide), k2 _ (by decide), k2 _ (by decide), k2 _ (by decide), k2 _ (by decide)]
  unfold bcT at hT
  have hn : Nat.blt j 4096 = false := by
    cases hb : Nat.blt j 4096
    · rfl
    · exact absurd (Nat.le_of_ble_eq_true hb) (by omega)
  rw [hn, Bool.false_or, beq_iff_eq] at hT
  have b1 : ∀ a b : Nat, Nat.beq a b = true ↔ a = b := fun a b => by rw [Nat.beq_eq]
  rw [← b1, hT]
  simp only [Bool.or_eq_true, b1]
theorem gFive_lo {i : Int32} (h : gFive i) : ¬ i < 4096 := by
  rcases h with rfl | rfl | rfl | rfl | rfl <;> decide
theorem gFive_hi {i : Int32} (h : gFive i) : ¬ 65536 < i := by
  rcases h with rfl | rfl | rfl | rfl | rfl <;> decide
theorem dX11_store_0 : decode cX11_store 0 = .ok (.iload_n 1, 1) := by decide +kernel
theorem dX11_store_1 : decode cX11_store 1 = .ok (.sipush 4096, 3) := by decide +kernel
theorem dX11_store_4 : decode cX11_store 4 = .ok (.if_icmp .lt 17, 3) := by decide +kernel
theorem dX11_store_7 : decode cX11_store 7 = .ok (.iload_n 1, 1) := by decide +kernel
theorem dX11_store_8 : decode cX11_store 8 = .ok (.ldc 123, 2) := by decide +kernel
theorem dX11_store_10 : decode cX11_store 10 = .ok (.if_icmp .gt 11, 3) := by decide +kernel
theorem dX11_store_13 : decode cX11_store 13 = .ok (.iload_n 1, 1) := by decide +kernel
theorem dX11_store_14 : decode cX11_store 14 = .ok (.invokestatic 124, 3) := by decide +kernel
theorem dX11_store_17 : decode cX11_store 17 = .ok (.iconst 1, 1) := by decide +kernel
theorem dX11_store_18 : decode cX11_store 18 = .ok (.if_icmp .eq 5, 3) := by decide +kernel
theorem dX11_store_21 : decode cX11_store 21 = .ok (.iconst 0, 1) := by decide +kernel
theorem dX11_store_22 : decode cX11_store 22 = .ok (.ireturn, 1) := by decide +kernel
theorem dX11_store_23 : decode cX11_store 23 = .ok (.aload_n 0, 1) := by decide +kernel
theorem dX11_store_24 : decode cX11_store 24 = .ok (.iload_n 1, 1) := by decide +kernel
theorem dX11_store_25 : decode cX11_store 25 = .ok (.putfield 75, 3) := by decide +kernel
theorem dX11_store_28 : decode cX11_store 28 = .ok (.iconst 1, 1) := by decide +kernel
theorem dX11_store_29 : decode cX11_store 29 = .ok (.ireturn, 1) := by decide +kernel
set_option maxHeartbeats 4000000 in
set_option maxRecDepth 100000 in
theorem c_W_store (l : Launch) (d : gD) (b : Nat) (Y : gYt) (F : gM) (S : gSt) (hW : gWT d Y F S) (i : Int32) : gMi l d b yX11_store cX11_store 2 .boolean 1 0 0 F [.ref (gO' Y 0), .int i] (fun r F' => (gFive i → r = 1) ∧ (¬ gFive i → r = 0) ∧ ∃ S', gWT d Y F' S' ∧ gKp Y F F' ∧ gSm S S' [] [0]) := by
  refine gM_of2 rfl (nL := 2) (Nat.le_of_ble_eq_true rfl) ?_
  intro X hX hC; subst hX
  show gG X d b _ F 0 0 0 [some (.ref (gO' Y 0)), some (.int i)] []
  have hM0 : gSm S S [] [0] := gSm.rf
  have hK0 : gKp Y F F := gKp.rf
  refine g_iload_n hC dX11_store_0 rfl ?_
  refine g_sipush (v := 4096) hC dX11_store_1 rfl ?_
  refine g_icmp_lt (tgt := 21) hC dX11_store_4 (by decide) (fun c1 => ?_) (fun c1 => ?_)
  · refine g_iconst (v := 0) hC dX11_store_21 rfl ?_
    exact g_iret hC rfl ⟨fun z => absurd (z : gFive i) (fun z => gFive_lo z c1), fun _ => rfl, S, hW, gKp.rf, gSm.rf⟩ (by first | exact Nat.le_of_ble_eq_true rfl | omega | (simp only [gR]; omega)) (by first | exact Nat.le_of_ble_eq_true rfl | omega | (simp only [gR]; omega)) dX11_store_22
  · refine g_iload_n hC dX11_store_7 rfl ?_
    refine g_ldc hC dX11_store_8 kw_1602 ?_
    refine g_icmp_gt (tgt := 21) hC dX11_store_10 (by decide) (fun c2 => ?_) (fun c2 => ?_)
    · refine g_iconst (v := 0) hC dX11_store_21 rfl ?_
      exact g_iret hC rfl ⟨fun z => absurd (z : gFive i) (fun z => gFive_hi z c2), fun _ => rfl, S, hW, gKp.rf, gSm.rf⟩ (by first | exact Nat.le_of_ble_eq_true rfl | omega | (simp only [gR]; omega)) (by first | exact Nat.le_of_ble_eq_true rfl | omega | (simp only [gR]; omega)) dX11_store_22
    · refine g_iload_n hC dX11_store_13 rfl ?_
      refine g_callSi (As := [.int i]) hC (c_bitCount X.la d b F i) cl_X11_124 rfl rfl (Nat.le_of_ble_eq_true rfl) (gFit_of (Nat.le_of_ble_eq_true rfl) (Nat.le_of_ble_eq_true rfl) (by first | exact Nat.le_of_ble_eq_true rfl | omega | (simp only [gR]; omega)) (by first | exact Nat.le_of_ble_eq_true rfl | omega | (simp only [gR]; omega))) dX11_store_14 (fun r5 F3 p4 => ?_)
      obtain ⟨er5, eF9⟩ := p4; have eF9 := eF9.symm; subst eF9
      have er1 := er5
      refine g_iconst (v := 1) hC dX11_store_17 rfl ?_
      refine g_icmp_eq (tgt := 23) hC dX11_store_18 (by decide) (fun c6 => ?_) (fun c6 => ?_)
      · have h5 : gFive i := (gBc_ok c1 c2).mp (er1 ▸ c6)
        refine g_aload_n hC dX11_store_23 rfl ?_
        refine g_iload_n hC dX11_store_24 rfl ?_
        refine g_put hC fl_X11_75 (hW.o 0 (by decide)) rfl rfl (Nat.le_of_ble_eq_true rfl) dX11_store_25 ?_
        refine g_vF (fun F7 hF7 => ?_)
        obtain ⟨hW9, k10⟩ := gWT.put (k := 0) (x := i) hW (i := 0) (by decide) hF7 rfl gsame_0 (fun q => absurd q (by decide))
        obtain ⟨S8, hS8⟩ : ∃ z, z = uV S 0 i := ⟨_, rfl⟩
        rw [← hS8] at hW9
        have s11 : gSm S S8 [] [0] := by rw [hS8]; exact gSm_uV
        have hM12 : gSm S S8 [] [0] := hM0.tr s11 _ _ rfl rfl
        have hK13 : gKp Y F F7 := hK0.tr k10
        have z14 : sV S8 0 = i := by rw [hS8]; exact uV_self
        refine g_iconst (v := 1) hC dX11_store_28 rfl ?_
        exact g_iret hC rfl ⟨fun _ => rfl, fun z => absurd h5 z, S8, hW9, hK13, hM12⟩ (by first | exact Nat.le_of_ble_eq_true rfl | omega | (simp only [gR]; omega)) (by first | exact Nat.le_of_ble_eq_true rfl | omega | (simp only [gR]; omega)) dX11_store_29
      · refine g_iconst (v := 0) hC dX11_store_21 rfl ?_
        exact g_iret hC rfl ⟨fun z => absurd ((gBc_ok c1 c2).mpr z) (fun q => c6 (er1 ▸ q)), fun _ => rfl, S, hW, gKp.rf, gSm.rf⟩ (by first | exact Nat.le_of_ble_eq_true rfl | omega | (simp only [gR]; omega)) (by first | exact Nat.le_of_ble_eq_true rfl | omega | (simp only [gR]; omega)) dX11_store_22
set_option maxRecDepth 20000 in
theorem x_nse1 : ∀ w ∈ (vx_at0 RX11 149 "java/util/NoSuchElementException" ["java/lang/RuntimeException", "java/lang/Exception"]).filter goodWord, w ∈ gWs := fun w h => List.mem_filter.mpr ⟨(by decide +kernel : ∀ w ∈ (vx_at0 RX11 149 "java/util/NoSuchElementException" ["java/lang/RuntimeException", "java/lang/Exception"]).filter goodWord, w ∈ lw_tbl) w h, (List.mem_filter.mp h).2⟩
theorem x_nse2 : ∀ w ∈ (vx_at0 RX11 149 "java/util/NoSuchElementException" ["java/lang/RuntimeException", "java/lang/Exception"]).filter (fun w => !goodWord w), w ∈ gCs.map (fun q => Cond.castable q.1 q.2) ++ gDs.map Cond.declares := by decide +kernel
theorem x_nse3 : ∀ w ∈ Cond.classLink RX11 147 "java/util/NoSuchElementException" :: Cond.initialized "java/util/NoSuchElementException" :: vx_at0 RX11 149 "java/util/NoSuchElementException" ["java/lang/RuntimeException", "java/lang/Exception"], vx_ot w = true := by decide +kernel
theorem gl0 {i r : Int32} {S : gSt} (a : i < 0 ∨ nI 2 ≤ i → r = (-1)) (c : ∀ j, j < 2 → i = nI j → r = nI (sZ S (38 + j))) (hz : ∀ j, j < 2 → sZ S (38 + j) = 0) : r = (-1) ∨ r = 0 := by
  by_cases h : i < 0 ∨ nI 2 ≤ i
  · exact Or.inl (a h)
  · obtain ⟨j, hj, rfl⟩ := nI_of (fun q => h (Or.inl q))
    have h2 : j < 2 := Nat.not_le.mp fun q => h (Or.inr (nI_le q hj))
    exact Or.inr ((c j h2 rfl).trans (by rw [hz j h2]; rfl))
theorem gle0 {k r : Int32} (h : r = (-1) ∨ r = 0) (h1 : ¬ k < 0) : ¬ k < r := by
  rcases h with rfl | rfl
  · intro q
    have a := Int32.lt_iff_toInt_lt.mp q
    exact h1 (Int32.lt_iff_toInt_lt.mpr (Int.lt_trans a (by decide)))
  · exact h1
theorem dX11_outAt_0 : decode cX11_outAt 0 = .ok (.iload_n 2, 1) := by decide +kernel
theorem dX11_outAt_1 : decode cX11_outAt 1 = .ok (.ifCond .lt 15, 3) := by decide +kernel
theorem dX11_outAt_4 : decode cX11_outAt 4 = .ok (.iload_n 2, 1) := by decide +kernel
theorem dX11_outAt_5 : decode cX11_outAt 5 = .ok (.aload_n 0, 1) := by decide +kernel
theorem dX11_outAt_6 : decode cX11_outAt 6 = .ok (.getfield 62, 3) := by decide +kernel
theorem dX11_outAt_9 : decode cX11_outAt 9 = .ok (.iload_n 1, 1) := by decide +kernel
theorem dX11_outAt_10 : decode cX11_outAt 10 = .ok (.invokevirtual 144, 3) := by decide +kernel
theorem dX11_outAt_13 : decode cX11_outAt 13 = .ok (.if_icmp .lt 11, 3) := by decide +kernel
theorem dX11_outAt_16 : decode cX11_outAt 16 = .ok (.new 147, 3) := by decide +kernel
theorem dX11_outAt_19 : decode cX11_outAt 19 = .ok (.dup, 1) := by decide +kernel
theorem dX11_outAt_20 : decode cX11_outAt 20 = .ok (.invokespecial 149, 3) := by decide +kernel
theorem dX11_outAt_23 : decode cX11_outAt 23 = .ok (.athrow, 1) := by decide +kernel
theorem dX11_outAt_24 : decode cX11_outAt 24 = .ok (.aload_n 0, 1) := by decide +kernel
theorem dX11_outAt_25 : decode cX11_outAt 25 = .ok (.getfield 62, 3) := by decide +kernel
theorem dX11_outAt_28 : decode cX11_outAt 28 = .ok (.iload_n 1, 1) := by decide +kernel
theorem dX11_outAt_29 : decode cX11_outAt 29 = .ok (.iload_n 2, 1) := by decide +kernel
theorem dX11_outAt_30 : decode cX11_outAt 30 = .ok (.invokevirtual 150, 3) := by decide +kernel
theorem dX11_outAt_33 : decode cX11_outAt 33 = .ok (.ireturn, 1) := by decide +kernel
set_option maxHeartbeats 4000000 in
set_option maxRecDepth 100000 in
theorem c_W_outAt0 (l : Launch) (d : gD) (b : Nat) (Y : gYt) (F : gM) (S : gSt) (hW : gWT d Y F S) (hl : l.stackTraces = false) (hzo : ∀ j, j < 2 → sZ S (38 + j) = 0) (i k : Int32) : gXi l d b yX11_outAt cX11_outAt 3 .int 6 1 6 F [.ref (gO' Y 0), .int i, .int k] (fun _ _ => False) "java/util/NoSuchElementException" (fun F' => F' = F) := by
  refine gX_of2 rfl (nL := 3) (Nat.le_of_ble_eq_true rfl) ?_
  intro X hX hT hC; subst hX
  show gG X d b _ F 0 0 0 [some (.ref (gO' Y 0)), some (.int i), some (.int k)] []
  have hM0 : gSm S S [] [] := gSm.rf
  have hK0 : gKp Y F F := gKp.rf
  refine g_iload_n hC dX11_outAt_0 rfl ?_
  refine g_if_lt (tgt := 16) hC dX11_outAt_1 (by decide) (fun c1 => ?_) (fun c1 => ?_)
  · exact g_throw0 (ic := 149) (ik := 147) (names := ["java/lang/RuntimeException", "java/lang/Exception"]) (px := fun F' => F' = F) hC hl hT (by decide +kernel) (by decide +kernel) kw_1910 kw_263 x_nse1 x_nse2 x_nse3 rfl dX11_outAt_16 dX11_outAt_19 dX11_outAt_20 dX11_outAt_23 (Nat.le_of_ble_eq_true rfl) (by decide) (gRc (Nat.le_of_ble_eq_true rfl)) (gRs (Nat.le_of_ble_eq_true rfl)) rfl (Nat.le_of_ble_eq_true rfl) (Nat.le_of_ble_eq_true rfl)
  · refine g_iload_n hC dX11_outAt_4 rfl ?_
    refine g_aload_n hC dX11_outAt_5 rfl ?_
    refine g_get hC fl_X11_62 (hW.o 0 (by decide)) rfl dX11_outAt_6 ?_
    refine g_iload_n hC dX11_outAt_9 rfl ?_
    refine g_callVi (As := [.int i]) hC rfl (hW.o 6 (by decide)) (c_C_length X.la d b Y F S hW i) cl_X11_144 rfl rfl (Nat.le_of_ble_eq_true rfl) (gFit_of (Nat.le_of_ble_eq_true rfl) (Nat.le_of_ble_eq_true rfl) (by first | exact Nat.le_of_ble_eq_true rfl | omega | (simp only [gR]; omega)) (by first | exact Nat.le_of_ble_eq_true rfl | omega | (simp only [gR]; omega))) dX11_outAt_10 (fun r4 F2 p3 => ?_)
    obtain ⟨ar4, br4, er4⟩ := p3; have er4 := er4.symm; subst er4
    refine g_icmp_lt (tgt := 24) hC dX11_outAt_13 (by decide) (fun c5 => ?_) (fun c5 => ?_)
    · exact absurd c5 (fun q => gle0 (gl0 (i := i) ar4 br4 hzo) c1 q)
    · exact g_throw0 (ic := 149) (ik := 147) (names := ["java/lang/RuntimeException", "java/lang/Exception"]) (px := fun F' => F' = F) hC hl hT (by decide +kernel) (by decide +kernel) kw_1910 kw_263 x_nse1 x_nse2 x_nse3 rfl dX11_outAt_16 dX11_outAt_19 dX11_outAt_20 dX11_outAt_23 (Nat.le_of_ble_eq_true rfl) (by decide) (gRc (Nat.le_of_ble_eq_true rfl)) (gRs (Nat.le_of_ble_eq_true rfl)) rfl (Nat.le_of_ble_eq_true rfl) (Nat.le_of_ble_eq_true rfl)
theorem dX11_word_0 : decode cX11_word 0 = .ok (.iload_n 1, 1) := by decide +kernel
theorem dX11_word_1 : decode cX11_word 1 = .ok (.ifCond .lt 11, 3) := by decide +kernel
theorem dX11_word_4 : decode cX11_word 4 = .ok (.iload_n 1, 1) := by decide +kernel
theorem dX11_word_5 : decode cX11_word 5 = .ok (.aload_n 0, 1) := by decide +kernel
theorem dX11_word_6 : decode cX11_word 6 = .ok (.getfield 79, 3) := by decide +kernel
theorem dX11_word_9 : decode cX11_word 9 = .ok (.if_icmp .lt 11, 3) := by decide +kernel
theorem dX11_word_12 : decode cX11_word 12 = .ok (.new 147, 3) := by decide +kernel
theorem dX11_word_15 : decode cX11_word 15 = .ok (.dup, 1) := by decide +kernel
theorem dX11_word_16 : decode cX11_word 16 = .ok (.invokespecial 149, 3) := by decide +kernel
theorem dX11_word_19 : decode cX11_word 19 = .ok (.athrow, 1) := by decide +kernel
theorem dX11_word_20 : decode cX11_word 20 = .ok (.aload_n 0, 1) := by decide +kernel
theorem dX11_word_21 : decode cX11_word 21 = .ok (.getfield 71, 3) := by decide +kernel
theorem dX11_word_24 : decode cX11_word 24 = .ok (.iload_n 1, 1) := by decide +kernel
theorem dX11_word_25 : decode cX11_word 25 = .ok (.invokevirtual 154, 3) := by decide +kernel
theorem dX11_word_28 : decode cX11_word 28 = .ok (.ireturn, 1) := by decide +kernel
set_option maxHeartbeats 4000000 in
set_option maxRecDepth 100000 in
theorem c_W_word0 (l : Launch) (d : gD) (b : Nat) (Y : gYt) (F : gM) (S : gSt) (hW : gWT d Y F S) (hl : l.stackTraces = false) (hv1 : sV S 1 = 4096) (hv27 : sV S 27 = 0) (i : Int32) : gXi l d b yX11_word cX11_word 2 .int 6 1 6 F [.ref (gO' Y 0), .int i] (fun r F' => (¬ i < 0 ∧ i < 4096) ∧ r = 0 ∧ F' = F) "java/util/NoSuchElementException" (fun F' => (i < 0 ∨ ¬ i < 4096) ∧ F' = F) := by
  refine gX_of2 rfl (nL := 2) (Nat.le_of_ble_eq_true rfl) ?_
  intro X hX hT hC; subst hX
  show gG X d b _ F 0 0 0 [some (.ref (gO' Y 0)), some (.int i)] []
  have hM0 : gSm S S [] [] := gSm.rf
  have hK0 : gKp Y F F := gKp.rf
  refine g_iload_n hC dX11_word_0 rfl ?_
  refine g_if_lt (tgt := 12) hC dX11_word_1 (by decide) (fun c1 => ?_) (fun c1 => ?_)
  · exact g_throw0 (ic := 149) (ik := 147) (names := ["java/lang/RuntimeException", "java/lang/Exception"]) (px := fun F' => (i < 0 ∨ ¬ i < 4096) ∧ F' = F) hC hl hT (by decide +kernel) (by decide +kernel) kw_1910 kw_263 x_nse1 x_nse2 x_nse3 rfl dX11_word_12 dX11_word_15 dX11_word_16 dX11_word_19 (Nat.le_of_ble_eq_true rfl) (by decide) (gRc (Nat.le_of_ble_eq_true rfl)) (gRs (Nat.le_of_ble_eq_true rfl)) ⟨Or.inl c1, rfl⟩ (Nat.le_of_ble_eq_true rfl) (Nat.le_of_ble_eq_true rfl)
  · refine g_iload_n hC dX11_word_4 rfl ?_
    refine g_aload_n hC dX11_word_5 rfl ?_
    refine g_get hC fl_X11_79 (hW.o 0 (by decide)) rfl dX11_word_6 ?_
    refine g_icmp_lt (tgt := 20) hC dX11_word_9 (by decide) (fun c2 => ?_) (fun c2 => ?_)
    · refine g_aload_n hC dX11_word_20 rfl ?_
      refine g_get hC fl_X11_71 (hW.o 0 (by decide)) rfl dX11_word_21 ?_
      refine g_iload_n hC dX11_word_24 rfl ?_
      refine g_callVi (As := [.int i]) hC rfl (hW.o 7 (by decide)) (c_M_left0 X.la d b Y F S hW hv27 i) cl_X11_154 rfl rfl (Nat.le_of_ble_eq_true rfl) (gFit_of (Nat.le_of_ble_eq_true rfl) (Nat.le_of_ble_eq_true rfl) (by first | exact Nat.le_of_ble_eq_true rfl | omega | (simp only [gR]; omega)) (by first | exact Nat.le_of_ble_eq_true rfl | omega | (simp only [gR]; omega))) dX11_word_25 (fun r5 F3 p4 => ?_)
      obtain ⟨rfl, eF3⟩ := p4; have eF3 := eF3.symm; subst eF3
      exact g_xret (g_iret hC rfl ⟨⟨c1, hv1 ▸ c2⟩, rfl, rfl⟩ (by first | exact Nat.le_of_ble_eq_true rfl | omega | (simp only [gR]; omega)) (by first | exact Nat.le_of_ble_eq_true rfl | omega | (simp only [gR]; omega)) dX11_word_28)
    · exact g_throw0 (ic := 149) (ik := 147) (names := ["java/lang/RuntimeException", "java/lang/Exception"]) (px := fun F' => (i < 0 ∨ ¬ i < 4096) ∧ F' = F) hC hl hT (by decide +kernel) (by decide +kernel) kw_1910 kw_263 x_nse1 x_nse2 x_nse3 rfl dX11_word_12 dX11_word_15 dX11_word_16 dX11_word_19 (Nat.le_of_ble_eq_true rfl) (by decide) (gRc (Nat.le_of_ble_eq_true rfl)) (gRs (Nat.le_of_ble_eq_true rfl)) ⟨Or.inr (fun q => c2 (by rw [hv1]; exact q)), rfl⟩ (Nat.le_of_ble_eq_true rfl) (Nat.le_of_ble_eq_true rfl)
end
section
theorem kw_294 : Cond.methodLink RX7 3 objectInit ∈ gWs := gWm 294 (by decide +kernel) rfl
theorem kw_295 : Cond.classLink RX7 9 RX4 ∈ gWs := gWm 295 (by decide +kernel) rfl
theorem kw_273 : Cond.instantiable RX4 3 ∈ gWs := gWm 273 (by decide +kernel) rfl
theorem nl_X7_9 : gNL RX7 9 4 3 [.int 0, .null, .int 0] := ⟨RX4, TX4, tyX4, rfl, inW_RX4, tyX4_ok, kw_295, kw_273, kw_239, by decide +kernel⟩
theorem kw_276 : Cond.code yX4_init cX4_init 2 none ∈ gWs := gWm 276 (by decide +kernel) rfl
theorem kw_297 : Cond.methodLink RX7 12 yX4_init ∈ gWs := gWm 297 (by decide +kernel) rfl
theorem kw_275 : Cond.instanceMethod yX4_init ∈ gWs := gWm 275 (by decide +kernel) rfl
theorem cl_X7_12 : gCI RX7 12 yX4_init cX4_init 2 1 := ⟨gWs_all kw_276, kw_239, kw_297, kw_275, rfl, ⟨by decide +kernel, by decide +kernel, by decide +kernel⟩⟩
theorem kw_296 : Cond.constant RX7 11 1000000 ∈ gWs := gWm 296 (by decide +kernel) rfl
theorem kw_337 : Cond.methodLink RX10 3 objectInit ∈ gWs := gWm 337 (by decide +kernel) rfl
theorem kw_338 : Cond.classLink RX10 9 RX4 ∈ gWs := gWm 338 (by decide +kernel) rfl
theorem nl_X10_9 : gNL RX10 9 4 3 [.int 0, .null, .int 0] := ⟨RX4, TX4, tyX4, rfl, inW_RX4, tyX4_ok, kw_338, kw_273, kw_239, by decide +kernel⟩
theorem kw_340 : Cond.methodLink RX10 12 yX4_init ∈ gWs := gWm 340 (by decide +kernel) rfl
theorem cl_X10_12 : gCI RX10 12 yX4_init cX4_init 2 1 := ⟨gWs_all kw_276, kw_239, kw_340, kw_275, rfl, ⟨by decide +kernel, by decide +kernel, by decide +kernel⟩⟩
theorem kw_339 : Cond.constant RX10 11 1000000 ∈ gWs := gWm 339 (by decide +kernel) rfl
theorem kw_583 : Cond.methodLink RX9 3 objectInit ∈ gWs := gWm 583 (by decide +kernel) rfl
theorem kw_584 : Cond.classLink RX9 9 RX4 ∈ gWs := gWm 584 (by decide +kernel) rfl
theorem nl_X9_9 : gNL RX9 9 4 3 [.int 0, .null, .int 0] := ⟨RX4, TX4, tyX4, rfl, inW_RX4, tyX4_ok, kw_584, kw_273, kw_239, by decide +kernel⟩
theorem kw_586 : Cond.methodLink RX9 12 yX4_init ∈ gWs := gWm 586 (by decide +kernel) rfl
theorem cl_X9_12 : gCI RX9 12 yX4_init cX4_init 2 1 := ⟨gWs_all kw_276, kw_239, kw_586, kw_275, rfl, ⟨by decide +kernel, by decide +kernel, by decide +kernel⟩⟩
theorem kw_588 : Cond.fieldLink RX9 15 "WordTongue$Scope" "names" "LWordTongue$Ints;" ∈ gWs := gWm 588 (by decide +kernel) rfl
theorem kw_595 : Cond.laysFinal RX9 "WordTongue$Scope" "program" "LWordTongue$Program;" ∈ gWs := gWm 595 (by decide +kernel) rfl
theorem kw_597 : Cond.laysFinal RX9 "WordTongue$Scope" "names" "LWordTongue$Ints;" ∈ gWs := gWm 597 (by decide +kernel) rfl
theorem kw_599 : Cond.laysFinal RX9 "WordTongue$Scope" "kinds" "LWordTongue$Ints;" ∈ gWs := gWm 599 (by decide +kernel) rfl
theorem kw_601 : Cond.laysFinal RX9 "WordTongue$Scope" "datas" "LWordTongue$Ints;" ∈ gWs := gWm 601 (by decide +kernel) rfl
theorem kw_603 : Cond.laysFinal RX9 "WordTongue$Scope" "owners" "LWordTongue$Ints;" ∈ gWs := gWm 603 (by decide +kernel) rfl
theorem kw_605 : Cond.laysFinal RX9 "WordTongue$Scope" "places" "LWordTongue$Ints;" ∈ gWs := gWm 605 (by decide +kernel) rfl
theorem kw_607 : Cond.laysFinal RX9 "WordTongue$Scope" "marks" "LWordTongue$Ints;" ∈ gWs := gWm 607 (by decide +kernel) rfl
theorem kw_609 : Cond.lays RX9 "WordTongue$Scope" "floor" "I" ∈ gWs := gWm 609 (by decide +kernel) rfl
set_option maxRecDepth 20000 in
theorem inW_RX9 : ∀ w ∈ u_ws RX9 TX9 8, w ∈ gWs := List.forall_mem_cons.mpr ⟨kw_595, List.forall_mem_cons.mpr ⟨kw_597, List.forall_mem_cons.mpr ⟨kw_599, List.forall_mem_cons.mpr ⟨kw_601, List.forall_mem_cons.mpr ⟨kw_603, List.forall_mem_cons.mpr ⟨kw_605, List.forall_mem_cons.mpr ⟨kw_607, List.forall_mem_cons.mpr ⟨kw_609, fun _ h => nomatch h⟩⟩⟩⟩⟩⟩⟩⟩
theorem fl_X9_15 : gFL RX9 15 9 1 (.object "WordTongue$Ints") true := ⟨RX9, TX9, 8, tyX9, rfl, by decide, inW_RX9, kw_588, tyX9_ok, nmX9, rfl, by decide +kernel, fun _ => rfl⟩
theorem kw_585 : Cond.constant RX9 11 1000000 ∈ gWs := gWm 585 (by decide +kernel) rfl
theorem kw_589 : Cond.fieldLink RX9 21 "WordTongue$Scope" "kinds" "LWordTongue$Ints;" ∈ gWs := gWm 589 (by decide +kernel) rfl
theorem fl_X9_21 : gFL RX9 21 9 2 (.object "WordTongue$Ints") true := ⟨RX9, TX9, 8, tyX9, rfl, by decide, inW_RX9, kw_589, tyX9_ok, nmX9, rfl, by decide +kernel, fun _ => rfl⟩
theorem kw_590 : Cond.fieldLink RX9 24 "WordTongue$Scope" "datas" "LWordTongue$Ints;" ∈ gWs := gWm 590 (by decide +kernel) rfl
theorem fl_X9_24 : gFL RX9 24 9 3 (.object "WordTongue$Ints") true := ⟨RX9, TX9, 8, tyX9, rfl, by decide, inW_RX9, kw_590, tyX9_ok, nmX9, rfl, by decide +kernel, fun _ => rfl⟩
theorem kw_591 : Cond.fieldLink RX9 27 "WordTongue$Scope" "owners" "LWordTongue$Ints;" ∈ gWs := gWm 591 (by decide +kernel) rfl
theorem fl_X9_27 : gFL RX9 27 9 4 (.object "WordTongue$Ints") true := ⟨RX9, TX9, 8, tyX9, rfl, by decide, inW_RX9, kw_591, tyX9_ok, nmX9, rfl, by decide +kernel, fun _ => rfl⟩
theorem kw_592 : Cond.fieldLink RX9 30 "WordTongue$Scope" "places" "LWordTongue$Ints;" ∈ gWs := gWm 592 (by decide +kernel) rfl
theorem fl_X9_30 : gFL RX9 30 9 5 (.object "WordTongue$Ints") true := ⟨RX9, TX9, 8, tyX9, rfl, by decide, inW_RX9, kw_592, tyX9_ok, nmX9, rfl, by decide +kernel, fun _ => rfl⟩
theorem kw_593 : Cond.fieldLink RX9 33 "WordTongue$Scope" "marks" "LWordTongue$Ints;" ∈ gWs := gWm 593 (by decide +kernel) rfl
theorem fl_X9_33 : gFL RX9 33 9 6 (.object "WordTongue$Ints") true := ⟨RX9, TX9, 8, tyX9, rfl, by decide, inW_RX9, kw_593, tyX9_ok, nmX9, rfl, by decide +kernel, fun _ => rfl⟩
theorem kw_594 : Cond.fieldLink RX9 36 "WordTongue$Scope" "floor" "I" ∈ gWs := gWm 594 (by decide +kernel) rfl
theorem fl_X9_36 : gFL RX9 36 9 7 .int false := ⟨RX9, TX9, 8, tyX9, rfl, by decide, inW_RX9, kw_594, tyX9_ok, nmX9, rfl, by decide +kernel, fun h => by cases h⟩
theorem kw_587 : Cond.fieldLink RX9 40 "WordTongue$Scope" "program" "LWordTongue$Program;" ∈ gWs := gWm 587 (by decide +kernel) rfl
theorem fl_X9_40 : gFL RX9 40 9 0 (.object "WordTongue$Program") true := ⟨RX9, TX9, 8, tyX9, rfl, by decide, inW_RX9, kw_587, tyX9_ok, nmX9, rfl, by decide +kernel, fun _ => rfl⟩
theorem kw_617 : Cond.methodLink RX2 3 objectInit ∈ gWs := gWm 617 (by decide +kernel) rfl
theorem kw_618 : Cond.classLink RX2 9 RX4 ∈ gWs := gWm 618 (by decide +kernel) rfl
theorem nl_X2_9 : gNL RX2 9 4 3 [.int 0, .null, .int 0] := ⟨RX4, TX4, tyX4, rfl, inW_RX4, tyX4_ok, kw_618, kw_273, kw_239, by decide +kernel⟩
theorem kw_620 : Cond.methodLink RX2 12 yX4_init ∈ gWs := gWm 620 (by decide +kernel) rfl
theorem cl_X2_12 : gCI RX2 12 yX4_init cX4_init 2 1 := ⟨gWs_all kw_276, kw_239, kw_620, kw_275, rfl, ⟨by decide +kernel, by decide +kernel, by decide +kernel⟩⟩
theorem kw_624 : Cond.fieldLink RX2 15 "WordTongue$Constants" "stack" "LWordTongue$Ints;" ∈ gWs := gWm 624 (by decide +kernel) rfl
theorem kw_628 : Cond.laysFinal RX2 "WordTongue$Constants" "tree" "LWordTongue$Tree;" ∈ gWs := gWm 628 (by decide +kernel) rfl
theorem kw_630 : Cond.laysFinal RX2 "WordTongue$Constants" "program" "LWordTongue$Program;" ∈ gWs := gWm 630 (by decide +kernel) rfl
theorem kw_632 : Cond.laysFinal RX2 "WordTongue$Constants" "scope" "LWordTongue$Scope;" ∈ gWs := gWm 632 (by decide +kernel) rfl
theorem kw_634 : Cond.laysFinal RX2 "WordTongue$Constants" "stack" "LWordTongue$Ints;" ∈ gWs := gWm 634 (by decide +kernel) rfl
theorem kw_636 : Cond.lays RX2 "WordTongue$Constants" "failed" "Z" ∈ gWs := gWm 636 (by decide +kernel) rfl
theorem kw_638 : Cond.lays RX2 "WordTongue$Constants" "faultKind" "I" ∈ gWs := gWm 638 (by decide +kernel) rfl
theorem kw_640 : Cond.lays RX2 "WordTongue$Constants" "faultPlace" "I" ∈ gWs := gWm 640 (by decide +kernel) rfl
set_option maxRecDepth 20000 in
theorem inW_RX2 : ∀ w ∈ u_ws RX2 TX2 7, w ∈ gWs := List.forall_mem_cons.mpr ⟨kw_628, List.forall_mem_cons.mpr ⟨kw_630, List.forall_mem_cons.mpr ⟨kw_632, List.forall_mem_cons.mpr ⟨kw_634, List.forall_mem_cons.mpr ⟨kw_636, List.forall_mem_cons.mpr ⟨kw_638, List.forall_mem_cons.mpr ⟨kw_640, fun _ h => nomatch h⟩⟩⟩⟩⟩⟩⟩
theorem fl_X2_15 : gFL RX2 15 2 3 (.object "WordTongue$Ints") true := ⟨RX2, TX2, 7, tyX2, rfl, by decide, inW_RX2, kw_624, tyX2_ok, nmX2, rfl, by decide +kernel, fun _ => rfl⟩
theorem kw_619 : Cond.constant RX2 11 1000000 ∈ gWs := gWm 619 (by decide +kernel) rfl
theorem kw_625 : Cond.fieldLink RX2 21 "WordTongue$Constants" "failed" "Z" ∈ gWs := gWm 625 (by decide +kernel) rfl
theorem fl_X2_21 : gFL RX2 21 2 4 .boolean false := ⟨RX2, TX2, 7, tyX2, rfl, by decide, inW_RX2, kw_625, tyX2_ok, nmX2, rfl, by decide +kernel, fun h => by cases h⟩
theorem kw_626 : Cond.fieldLink RX2 25 "WordTongue$Constants" "faultKind" "I" ∈ gWs := gWm 626 (by decide +kernel) rfl
theorem fl_X2_25 : gFL RX2 25 2 5 .int false := ⟨RX2, TX2, 7, tyX2, rfl, by decide, inW_RX2, kw_626, tyX2_ok, nmX2, rfl, by decide +kernel, fun h => by cases h⟩
theorem kw_627 : Cond.fieldLink RX2 29 "WordTongue$Constants" "faultPlace" "I" ∈ gWs := gWm 627 (by decide +kernel) rfl
theorem fl_X2_29 : gFL RX2 29 2 6 .int false := ⟨RX2, TX2, 7, tyX2, rfl, by decide, inW_RX2, kw_627, tyX2_ok, nmX2, rfl, by decide +kernel, fun h => by cases h⟩
theorem kw_621 : Cond.fieldLink RX2 32 "WordTongue$Constants" "tree" "LWordTongue$Tree;" ∈ gWs := gWm 621 (by decide +kernel) rfl
theorem fl_X2_32 : gFL RX2 32 2 0 (.object "WordTongue$Tree") true := ⟨RX2, TX2, 7, tyX2, rfl, by decide, inW_RX2, kw_621, tyX2_ok, nmX2, rfl, by decide +kernel, fun _ => rfl⟩
theorem kw_622 : Cond.fieldLink RX2 36 "WordTongue$Constants" "program" "LWordTongue$Program;" ∈ gWs := gWm 622 (by decide +kernel) rfl
theorem fl_X2_36 : gFL RX2 36 2 1 (.object "WordTongue$Program") true := ⟨RX2, TX2, 7, tyX2, rfl, by decide, inW_RX2, kw_622, tyX2_ok, nmX2, rfl, by decide +kernel, fun _ => rfl⟩
theorem kw_623 : Cond.fieldLink RX2 40 "WordTongue$Constants" "scope" "LWordTongue$Scope;" ∈ gWs := gWm 623 (by decide +kernel) rfl
theorem fl_X2_40 : gFL RX2 40 2 2 (.object "WordTongue$Scope") true := ⟨RX2, TX2, 7, tyX2, rfl, by decide, inW_RX2, kw_623, tyX2_ok, nmX2, rfl, by decide +kernel, fun _ => rfl⟩
theorem kw_737 : Cond.methodLink RX3 3 objectInit ∈ gWs := gWm 737 (by decide +kernel) rfl
theorem kw_738 : Cond.classLink RX3 9 RX4 ∈ gWs := gWm 738 (by decide +kernel) rfl
theorem nl_X3_9 : gNL RX3 9 4 3 [.int 0, .null, .int 0] := ⟨RX4, TX4, tyX4, rfl, inW_RX4, tyX4_ok, kw_738, kw_273, kw_239, by decide +kernel⟩
theorem kw_739 : Cond.methodLink RX3 11 yX4_init ∈ gWs := gWm 739 (by decide +kernel) rfl
theorem cl_X3_11 : gCI RX3 11 yX4_init cX4_init 2 1 := ⟨gWs_all kw_276, kw_239, kw_739, kw_275, rfl, ⟨by decide +kernel, by decide +kernel, by decide +kernel⟩⟩
theorem kw_740 : Cond.fieldLink RX3 14 "WordTongue$Heap" "starts" "LWordTongue$Ints;" ∈ gWs := gWm 740 (by decide +kernel) rfl
theorem kw_742 : Cond.laysFinal RX3 "WordTongue$Heap" "starts" "LWordTongue$Ints;" ∈ gWs := gWm 742 (by decide +kernel) rfl
theorem kw_744 : Cond.laysFinal RX3 "WordTongue$Heap" "lengths" "LWordTongue$Ints;" ∈ gWs := gWm 744 (by decide +kernel) rfl
set_option maxRecDepth 20000 in
theorem inW_RX3 : ∀ w ∈ u_ws RX3 TX3 2, w ∈ gWs := List.forall_mem_cons.mpr ⟨kw_742, List.forall_mem_cons.mpr ⟨kw_744, fun _ h => nomatch h⟩⟩
theorem fl_X3_14 : gFL RX3 14 3 0 (.object "WordTongue$Ints") true := ⟨RX3, TX3, 2, tyX3, rfl, by decide, inW_RX3, kw_740, tyX3_ok, nmX3, rfl, by decide +kernel, fun _ => rfl⟩
theorem kw_741 : Cond.fieldLink RX3 20 "WordTongue$Heap" "lengths" "LWordTongue$Ints;" ∈ gWs := gWm 741 (by decide +kernel) rfl
theorem fl_X3_20 : gFL RX3 20 3 1 (.object "WordTongue$Ints") true := ⟨RX3, TX3, 2, tyX3, rfl, by decide, inW_RX3, kw_741, tyX3_ok, nmX3, rfl, by decide +kernel, fun _ => rfl⟩
theorem kw_574 : Cond.methodLink RX1 3 objectInit ∈ gWs := gWm 574 (by decide +kernel) rfl
theorem kw_575 : Cond.classLink RX1 9 RX4 ∈ gWs := gWm 575 (by decide +kernel) rfl
theorem nl_X1_9 : gNL RX1 9 4 3 [.int 0, .null, .int 0] := ⟨RX4, TX4, tyX4, rfl, inW_RX4, tyX4_ok, kw_575, kw_273, kw_239, by decide +kernel⟩
theorem kw_577 : Cond.methodLink RX1 12 yX4_init ∈ gWs := gWm 577 (by decide +kernel) rfl
theorem cl_X1_12 : gCI RX1 12 yX4_init cX4_init 2 1 := ⟨gWs_all kw_276, kw_239, kw_577, kw_275, rfl, ⟨by decide +kernel, by decide +kernel, by decide +kernel⟩⟩
theorem kw_647 : Cond.fieldLink RX1 15 "WordTongue$Coder" "labels" "LWordTongue$Ints;" ∈ gWs := gWm 647 (by decide +kernel) rfl
theorem kw_662 : Cond.laysFinal RX1 "WordTongue$Coder" "tree" "LWordTongue$Tree;" ∈ gWs := gWm 662 (by decide +kernel) rfl
theorem kw_664 : Cond.laysFinal RX1 "WordTongue$Coder" "program" "LWordTongue$Program;" ∈ gWs := gWm 664 (by decide +kernel) rfl
theorem kw_666 : Cond.laysFinal RX1 "WordTongue$Coder" "scope" "LWordTongue$Scope;" ∈ gWs := gWm 666 (by decide +kernel) rfl
theorem kw_668 : Cond.laysFinal RX1 "WordTongue$Coder" "constants" "LWordTongue$Constants;" ∈ gWs := gWm 668 (by decide +kernel) rfl
theorem kw_670 : Cond.laysFinal RX1 "WordTongue$Coder" "labels" "LWordTongue$Ints;" ∈ gWs := gWm 670 (by decide +kernel) rfl
theorem kw_672 : Cond.laysFinal RX1 "WordTongue$Coder" "gotos" "LWordTongue$Ints;" ∈ gWs := gWm 672 (by decide +kernel) rfl
theorem kw_674 : Cond.laysFinal RX1 "WordTongue$Coder" "cases" "LWordTongue$Ints;" ∈ gWs := gWm 674 (by decide +kernel) rfl
theorem kw_676 : Cond.lays RX1 "WordTongue$Coder" "breaks" "I" ∈ gWs := gWm 676 (by decide +kernel) rfl
theorem kw_678 : Cond.lays RX1 "WordTongue$Coder" "loops" "I" ∈ gWs := gWm 678 (by decide +kernel) rfl
theorem kw_680 : Cond.lays RX1 "WordTongue$Coder" "endcases" "I" ∈ gWs := gWm 680 (by decide +kernel) rfl
theorem kw_682 : Cond.lays RX1 "WordTongue$Coder" "results" "I" ∈ gWs := gWm 682 (by decide +kernel) rfl
theorem kw_684 : Cond.lays RX1 "WordTongue$Coder" "caseBase" "I" ∈ gWs := gWm 684 (by decide +kernel) rfl
theorem kw_686 : Cond.lays RX1 "WordTongue$Coder" "fallback" "I" ∈ gWs := gWm 686 (by decide +kernel) rfl
theorem kw_688 : Cond.lays RX1 "WordTongue$Coder" "used" "I" ∈ gWs := gWm 688 (by decide +kernel) rfl
theorem kw_690 : Cond.lays RX1 "WordTongue$Coder" "most" "I" ∈ gWs := gWm 690 (by decide +kernel) rfl
theorem kw_692 : Cond.lays RX1 "WordTongue$Coder" "routine" "I" ∈ gWs := gWm 692 (by decide +kernel) rfl
theorem kw_694 : Cond.lays RX1 "WordTongue$Coder" "area" "I" ∈ gWs := gWm 694 (by decide +kernel) rfl
theorem kw_696 : Cond.lays RX1 "WordTongue$Coder" "areas" "I" ∈ gWs := gWm 696 (by decide +kernel) rfl
theorem kw_698 : Cond.lays RX1 "WordTongue$Coder" "isFunction" "Z" ∈ gWs := gWm 698 (by decide +kernel) rfl
set_option maxRecDepth 20000 in
theorem inW_RX1 : ∀ w ∈ u_ws RX1 TX1 19, w ∈ gWs := List.forall_mem_cons.mpr ⟨kw_662, List.forall_mem_cons.mpr ⟨kw_664, List.forall_mem_cons.mpr ⟨kw_666, List.forall_mem_cons.mpr ⟨kw_668, List.forall_mem_cons.mpr ⟨kw_670, List.forall_mem_cons.mpr ⟨kw_672, List.forall_mem_cons.mpr ⟨kw_674, List.forall_mem_cons.mpr ⟨kw_676, List.forall_mem_cons.mpr ⟨kw_678, List.forall_mem_cons.mpr ⟨kw_680, List.forall_mem_cons.mpr ⟨kw_682, List.forall_mem_cons.mpr ⟨kw_684, List.forall_mem_cons.mpr ⟨kw_686, List.forall_mem_cons.mpr ⟨kw_688, List.forall_mem_cons.mpr ⟨kw_690, List.forall_mem_cons.mpr ⟨kw_692, List.forall_mem_cons.mpr ⟨kw_694, List.forall_mem_cons.mpr ⟨kw_696, List.forall_mem_cons.mpr ⟨kw_698, fun _ h => nomatch h⟩⟩⟩⟩⟩⟩⟩⟩⟩⟩⟩⟩⟩⟩⟩⟩⟩⟩⟩
theorem fl_X1_15 : gFL RX1 15 1 4 (.object "WordTongue$Ints") true := ⟨RX1, TX1, 19, tyX1, rfl, by decide, inW_RX1, kw_647, tyX1_ok, nmX1, rfl, by decide +kernel, fun _ => rfl⟩
theorem kw_576 : Cond.constant RX1 11 1000000 ∈ gWs := gWm 576 (by decide +kernel) rfl
theorem kw_648 : Cond.fieldLink RX1 21 "WordTongue$Coder" "gotos" "LWordTongue$Ints;" ∈ gWs := gWm 648 (by decide +kernel) rfl
theorem fl_X1_21 : gFL RX1 21 1 5 (.object "WordTongue$Ints") true := ⟨RX1, TX1, 19, tyX1, rfl, by decide, inW_RX1, kw_648, tyX1_ok, nmX1, rfl, by decide +kernel, fun _ => rfl⟩
theorem kw_649 : Cond.fieldLink RX1 24 "WordTongue$Coder" "cases" "LWordTongue$Ints;" ∈ gWs := gWm 649 (by decide +kernel) rfl
theorem fl_X1_24 : gFL RX1 24 1 6 (.object "WordTongue$Ints") true := ⟨RX1, TX1, 19, tyX1, rfl, by decide, inW_RX1, kw_649, tyX1_ok, nmX1, rfl, by decide +kernel, fun _ => rfl⟩
theorem kw_650 : Cond.fieldLink RX1 27 "WordTongue$Coder" "breaks" "I" ∈ gWs := gWm 650 (by decide +kernel) rfl
theorem fl_X1_27 : gFL RX1 27 1 7 .int false := ⟨RX1, TX1, 19, tyX1, rfl, by decide, inW_RX1, kw_650, tyX1_ok, nmX1, rfl, by decide +kernel, fun h => by cases h⟩
theorem kw_651 : Cond.fieldLink RX1 31 "WordTongue$Coder" "loops" "I" ∈ gWs := gWm 651 (by decide +kernel) rfl
theorem fl_X1_31 : gFL RX1 31 1 8 .int false := ⟨RX1, TX1, 19, tyX1, rfl, by decide, inW_RX1, kw_651, tyX1_ok, nmX1, rfl, by decide +kernel, fun h => by cases h⟩
theorem kw_652 : Cond.fieldLink RX1 34 "WordTongue$Coder" "endcases" "I" ∈ gWs := gWm 652 (by decide +kernel) rfl
theorem fl_X1_34 : gFL RX1 34 1 9 .int false := ⟨RX1, TX1, 19, tyX1, rfl, by decide, inW_RX1, kw_652, tyX1_ok, nmX1, rfl, by decide +kernel, fun h => by cases h⟩
theorem kw_653 : Cond.fieldLink RX1 37 "WordTongue$Coder" "results" "I" ∈ gWs := gWm 653 (by decide +kernel) rfl
theorem fl_X1_37 : gFL RX1 37 1 10 .int false := ⟨RX1, TX1, 19, tyX1, rfl, by decide, inW_RX1, kw_653, tyX1_ok, nmX1, rfl, by decide +kernel, fun h => by cases h⟩
theorem kw_654 : Cond.fieldLink RX1 40 "WordTongue$Coder" "caseBase" "I" ∈ gWs := gWm 654 (by decide +kernel) rfl
theorem fl_X1_40 : gFL RX1 40 1 11 .int false := ⟨RX1, TX1, 19, tyX1, rfl, by decide, inW_RX1, kw_654, tyX1_ok, nmX1, rfl, by decide +kernel, fun h => by cases h⟩
theorem kw_655 : Cond.fieldLink RX1 43 "WordTongue$Coder" "fallback" "I" ∈ gWs := gWm 655 (by decide +kernel) rfl
theorem fl_X1_43 : gFL RX1 43 1 12 .int false := ⟨RX1, TX1, 19, tyX1, rfl, by decide, inW_RX1, kw_655, tyX1_ok, nmX1, rfl, by decide +kernel, fun h => by cases h⟩
theorem kw_656 : Cond.fieldLink RX1 46 "WordTongue$Coder" "used" "I" ∈ gWs := gWm 656 (by decide +kernel) rfl
theorem fl_X1_46 : gFL RX1 46 1 13 .int false := ⟨RX1, TX1, 19, tyX1, rfl, by decide, inW_RX1, kw_656, tyX1_ok, nmX1, rfl, by decide +kernel, fun h => by cases h⟩
theorem kw_657 : Cond.fieldLink RX1 49 "WordTongue$Coder" "most" "I" ∈ gWs := gWm 657 (by decide +kernel) rfl
theorem fl_X1_49 : gFL RX1 49 1 14 .int false := ⟨RX1, TX1, 19, tyX1, rfl, by decide, inW_RX1, kw_657, tyX1_ok, nmX1, rfl, by decide +kernel, fun h => by cases h⟩
theorem kw_658 : Cond.fieldLink RX1 52 "WordTongue$Coder" "routine" "I" ∈ gWs := gWm 658 (by decide +kernel) rfl
theorem fl_X1_52 : gFL RX1 52 1 15 .int false := ⟨RX1, TX1, 19, tyX1, rfl, by decide, inW_RX1, kw_658, tyX1_ok, nmX1, rfl, by decide +kernel, fun h => by cases h⟩
theorem kw_659 : Cond.fieldLink RX1 55 "WordTongue$Coder" "area" "I" ∈ gWs := gWm 659 (by decide +kernel) rfl
theorem fl_X1_55 : gFL RX1 55 1 16 .int false := ⟨RX1, TX1, 19, tyX1, rfl, by decide, inW_RX1, kw_659, tyX1_ok, nmX1, rfl, by decide +kernel, fun h => by cases h⟩
theorem kw_660 : Cond.fieldLink RX1 58 "WordTongue$Coder" "areas" "I" ∈ gWs := gWm 660 (by decide +kernel) rfl
theorem fl_X1_58 : gFL RX1 58 1 17 .int false := ⟨RX1, TX1, 19, tyX1, rfl, by decide, inW_RX1, kw_660, tyX1_ok, nmX1, rfl, by decide +kernel, fun h => by cases h⟩
theorem kw_661 : Cond.fieldLink RX1 61 "WordTongue$Coder" "isFunction" "Z" ∈ gWs := gWm 661 (by decide +kernel) rfl
theorem fl_X1_61 : gFL RX1 61 1 18 .boolean false := ⟨RX1, TX1, 19, tyX1, rfl, by decide, inW_RX1, kw_661, tyX1_ok, nmX1, rfl, by decide +kernel, fun h => by cases h⟩
theorem kw_643 : Cond.fieldLink RX1 65 "WordTongue$Coder" "tree" "LWordTongue$Tree;" ∈ gWs := gWm 643 (by decide +kernel) rfl
theorem fl_X1_65 : gFL RX1 65 1 0 (.object "WordTongue$Tree") true := ⟨RX1, TX1, 19, tyX1, rfl, by decide, inW_RX1, kw_643, tyX1_ok, nmX1, rfl, by decide +kernel, fun _ => rfl⟩
theorem kw_644 : Cond.fieldLink RX1 69 "WordTongue$Coder" "program" "LWordTongue$Program;" ∈ gWs := gWm 644 (by decide +kernel) rfl
theorem fl_X1_69 : gFL RX1 69 1 1 (.object "WordTongue$Program") true := ⟨RX1, TX1, 19, tyX1, rfl, by decide, inW_RX1, kw_644, tyX1_ok, nmX1, rfl, by decide +kernel, fun _ => rfl⟩
theorem kw_578 : Cond.classLink RX1 73 RX9 ∈ gWs := gWm 578 (by decide +kernel) rfl
theorem kw_579 : Cond.instantiable RX9 8 ∈ gWs := gWm 579 (by decide +kernel) rfl
theorem kw_252 : Cond.initialized RX9 ∈ gWs := gWm 252 (by decide +kernel) rfl
theorem nl_X1_73 : gNL RX1 73 9 8 [.null, .null, .null, .null, .null, .null, .null, .int 0] := ⟨RX9, TX9, tyX9, rfl, inW_RX9, tyX9_ok, kw_578, kw_579, kw_252, by decide +kernel⟩
theorem kw_582 : Cond.code yX9_init cX9_init 2 none ∈ gWs := gWm 582 (by decide +kernel) rfl
theorem kw_580 : Cond.methodLink RX1 75 yX9_init ∈ gWs := gWm 580 (by decide +kernel) rfl
theorem kw_581 : Cond.instanceMethod yX9_init ∈ gWs := gWm 581 (by decide +kernel) rfl
theorem cl_X1_75 : gCI RX1 75 yX9_init cX9_init 2 1 := ⟨gWs_all kw_582, kw_252, kw_580, kw_581, rfl, ⟨by decide +kernel, by decide +kernel, by decide +kernel⟩⟩
theorem kw_645 : Cond.fieldLink RX1 78 "WordTongue$Coder" "scope" "LWordTongue$Scope;" ∈ gWs := gWm 645 (by decide +kernel) rfl
theorem fl_X1_78 : gFL RX1 78 1 2 (.object "WordTongue$Scope") true := ⟨RX1, TX1, 19, tyX1, rfl, by decide, inW_RX1, kw_645, tyX1_ok, nmX1, rfl, by decide +kernel, fun _ => rfl⟩
theorem kw_612 : Cond.classLink RX1 82 RX2 ∈ gWs := gWm 612 (by decide +kernel) rfl
theorem kw_613 : Cond.instantiable RX2 7 ∈ gWs := gWm 613 (by decide +kernel) rfl
theorem kw_253 : Cond.initialized RX2 ∈ gWs := gWm 253 (by decide +kernel) rfl
theorem nl_X1_82 : gNL RX1 82 2 7 [.null, .null, .null, .null, .int 0, .int 0, .int 0] := ⟨RX2, TX2, tyX2, rfl, inW_RX2, tyX2_ok, kw_612, kw_613, kw_253, by decide +kernel⟩
theorem kw_616 : Cond.code yX2_init cX2_init 4 none ∈ gWs := gWm 616 (by decide +kernel) rfl
theorem kw_614 : Cond.methodLink RX1 84 yX2_init ∈ gWs := gWm 614 (by decide +kernel) rfl
theorem kw_615 : Cond.instanceMethod yX2_init ∈ gWs := gWm 615 (by decide +kernel) rfl
theorem cl_X1_84 : gCI RX1 84 yX2_init cX2_init 4 3 := ⟨gWs_all kw_616, kw_253, kw_614, kw_615, rfl, ⟨by decide +kernel, by decide +kernel, by decide +kernel⟩⟩
theorem kw_646 : Cond.fieldLink RX1 87 "WordTongue$Coder" "constants" "LWordTongue$Constants;" ∈ gWs := gWm 646 (by decide +kernel) rfl
theorem fl_X1_87 : gFL RX1 87 1 3 (.object "WordTongue$Constants") true := ⟨RX1, TX1, 19, tyX1, rfl, by decide, inW_RX1, kw_646, tyX1_ok, nmX1, rfl, by decide +kernel, fun _ => rfl⟩
theorem kw_731 : Cond.methodLink RX5 3 objectInit ∈ gWs := gWm 731 (by decide +kernel) rfl
theorem kw_732 : Cond.classLink RX5 9 RX3 ∈ gWs := gWm 732 (by decide +kernel) rfl
theorem kw_733 : Cond.instantiable RX3 2 ∈ gWs := gWm 733 (by decide +kernel) rfl
theorem kw_256 : Cond.initialized RX3 ∈ gWs := gWm 256 (by decide +kernel) rfl
theorem nl_X5_9 : gNL RX5 9 3 2 [.null, .null] := ⟨RX3, TX3, tyX3, rfl, inW_RX3, tyX3_ok, kw_732, kw_733, kw_256, by decide +kernel⟩
theorem kw_736 : Cond.code yX3_init cX3_init 1 none ∈ gWs := gWm 736 (by decide +kernel) rfl
theorem kw_735 : Cond.instanceMethod yX3_init ∈ gWs := gWm 735 (by decide +kernel) rfl
theorem cl_X5_11 : gCIN RX5 11 3 yX3_init cX3_init 1 0 := ⟨_, rfl, gWs_all kw_736, kw_256, kw_735, rfl, ⟨by decide +kernel, by decide +kernel, by decide +kernel⟩⟩
theorem kw_752 : Cond.fieldLink RX5 12 "WordTongue$Machine" "heap" "LWordTongue$Heap;" ∈ gWs := gWm 752 (by decide +kernel) rfl
theorem fl_X5_12 : gFL RX5 12 5 2 (.object "WordTongue$Heap") true := ⟨RX5, TX5, 16, tyX5, rfl, by decide, inW_RX5, kw_752, tyX5_ok, nmX5, rfl, by decide +kernel, fun _ => rfl⟩
theorem kw_747 : Cond.classLink RX5 18 RX4 ∈ gWs := gWm 747 (by decide +kernel) rfl
theorem nl_X5_18 : gNL RX5 18 4 3 [.int 0, .null, .int 0] := ⟨RX4, TX4, tyX4, rfl, inW_RX4, tyX4_ok, kw_747, kw_273, kw_239, by decide +kernel⟩
theorem kw_749 : Cond.methodLink RX5 21 yX4_init ∈ gWs := gWm 749 (by decide +kernel) rfl
theorem cl_X5_21 : gCI RX5 21 yX4_init cX4_init 2 1 := ⟨gWs_all kw_276, kw_239, kw_749, kw_275, rfl, ⟨by decide +kernel, by decide +kernel, by decide +kernel⟩⟩
theorem kw_753 : Cond.fieldLink RX5 24 "WordTongue$Machine" "stack" "LWordTongue$Ints;" ∈ gWs := gWm 753 (by decide +kernel) rfl
theorem fl_X5_24 : gFL RX5 24 5 3 (.object "WordTongue$Ints") true := ⟨RX5, TX5, 16, tyX5, rfl, by decide, inW_RX5, kw_753, tyX5_ok, nmX5, rfl, by decide +kernel, fun _ => rfl⟩
theorem kw_748 : Cond.constant RX5 20 1000000 ∈ gWs := gWm 748 (by decide +kernel) rfl
theorem kw_754 : Cond.fieldLink RX5 28 "WordTongue$Machine" "calls" "LWordTongue$Ints;" ∈ gWs := gWm 754 (by decide +kernel) rfl
theorem fl_X5_28 : gFL RX5 28 5 4 (.object "WordTongue$Ints") true := ⟨RX5, TX5, 16, tyX5, rfl, by decide, inW_RX5, kw_754, tyX5_ok, nmX5, rfl, by decide +kernel, fun _ => rfl⟩
theorem kw_755 : Cond.fieldLink RX5 31 "WordTongue$Machine" "cells" "[I" ∈ gWs := gWm 755 (by decide +kernel) rfl
theorem fl_X5_31 : gFL RX5 31 5 5 (.array .int) false := ⟨RX5, TX5, 16, tyX5, rfl, by decide, inW_RX5, kw_755, tyX5_ok, nmX5, rfl, by decide +kernel, fun h => by cases h⟩
theorem kw_757 : Cond.fieldLink RX5 39 "WordTongue$Machine" "at" "I" ∈ gWs := gWm 757 (by decide +kernel) rfl
theorem fl_X5_39 : gFL RX5 39 5 7 .int false := ⟨RX5, TX5, 16, tyX5, rfl, by decide, inW_RX5, kw_757, tyX5_ok, nmX5, rfl, by decide +kernel, fun h => by cases h⟩
theorem kw_758 : Cond.fieldLink RX5 42 "WordTongue$Machine" "base" "I" ∈ gWs := gWm 758 (by decide +kernel) rfl
theorem fl_X5_42 : gFL RX5 42 5 8 .int false := ⟨RX5, TX5, 16, tyX5, rfl, by decide, inW_RX5, kw_758, tyX5_ok, nmX5, rfl, by decide +kernel, fun h => by cases h⟩
theorem kw_759 : Cond.fieldLink RX5 45 "WordTongue$Machine" "routine" "I" ∈ gWs := gWm 759 (by decide +kernel) rfl
theorem fl_X5_45 : gFL RX5 45 5 9 .int false := ⟨RX5, TX5, 16, tyX5, rfl, by decide, inW_RX5, kw_759, tyX5_ok, nmX5, rfl, by decide +kernel, fun h => by cases h⟩
theorem kw_762 : Cond.fieldLink RX5 54 "WordTongue$Machine" "error" "I" ∈ gWs := gWm 762 (by decide +kernel) rfl
theorem fl_X5_54 : gFL RX5 54 5 12 .int false := ⟨RX5, TX5, 16, tyX5, rfl, by decide, inW_RX5, kw_762, tyX5_ok, nmX5, rfl, by decide +kernel, fun h => by cases h⟩
theorem kw_763 : Cond.fieldLink RX5 57 "WordTongue$Machine" "over" "Z" ∈ gWs := gWm 763 (by decide +kernel) rfl
theorem fl_X5_57 : gFL RX5 57 5 13 .boolean false := ⟨RX5, TX5, 16, tyX5, rfl, by decide, inW_RX5, kw_763, tyX5_ok, nmX5, rfl, by decide +kernel, fun h => by cases h⟩
theorem kw_764 : Cond.fieldLink RX5 61 "WordTongue$Machine" "service" "I" ∈ gWs := gWm 764 (by decide +kernel) rfl
theorem fl_X5_61 : gFL RX5 61 5 14 .int false := ⟨RX5, TX5, 16, tyX5, rfl, by decide, inW_RX5, kw_764, tyX5_ok, nmX5, rfl, by decide +kernel, fun h => by cases h⟩
theorem kw_765 : Cond.fieldLink RX5 64 "WordTongue$Machine" "given" "I" ∈ gWs := gWm 765 (by decide +kernel) rfl
theorem fl_X5_64 : gFL RX5 64 5 15 .int false := ⟨RX5, TX5, 16, tyX5, rfl, by decide, inW_RX5, kw_765, tyX5_ok, nmX5, rfl, by decide +kernel, fun h => by cases h⟩
theorem kw_750 : Cond.fieldLink RX5 67 "WordTongue$Machine" "program" "LWordTongue$Program;" ∈ gWs := gWm 750 (by decide +kernel) rfl
theorem fl_X5_67 : gFL RX5 67 5 0 (.object "WordTongue$Program") true := ⟨RX5, TX5, 16, tyX5, rfl, by decide, inW_RX5, kw_750, tyX5_ok, nmX5, rfl, by decide +kernel, fun _ => rfl⟩
theorem kw_751 : Cond.fieldLink RX5 71 "WordTongue$Machine" "channels" "LWordTongue$Channels;" ∈ gWs := gWm 751 (by decide +kernel) rfl
theorem fl_X5_71 : gFL RX5 71 5 1 (.object "WordTongue$Channels") true := ⟨RX5, TX5, 16, tyX5, rfl, by decide, inW_RX5, kw_751, tyX5_ok, nmX5, rfl, by decide +kernel, fun _ => rfl⟩
theorem kw_706 : Cond.methodLink RX0 3 objectInit ∈ gWs := gWm 706 (by decide +kernel) rfl
theorem kw_707 : Cond.classLink RX0 9 RX4 ∈ gWs := gWm 707 (by decide +kernel) rfl
theorem nl_X0_9 : gNL RX0 9 4 3 [.int 0, .null, .int 0] := ⟨RX4, TX4, tyX4, rfl, inW_RX4, tyX4_ok, kw_707, kw_273, kw_239, by decide +kernel⟩
theorem kw_709 : Cond.methodLink RX0 11 yX4_init ∈ gWs := gWm 709 (by decide +kernel) rfl
theorem cl_X0_11 : gCI RX0 11 yX4_init cX4_init 2 1 := ⟨gWs_all kw_276, kw_239, kw_709, kw_275, rfl, ⟨by decide +kernel, by decide +kernel, by decide +kernel⟩⟩
theorem kw_713 : Cond.fieldLink RX0 27 "WordTongue$Channels" "inHand" "I" ∈ gWs := gWm 713 (by decide +kernel) rfl
theorem fl_X0_27 : gFL RX0 27 0 3 .int false := ⟨RX0, TX0, 5, tyX0, rfl, by decide, inW_RX0, kw_713, tyX0_ok, nmX0, rfl, by decide +kernel, fun h => by cases h⟩
theorem kw_714 : Cond.fieldLink RX0 31 "WordTongue$Channels" "outHand" "I" ∈ gWs := gWm 714 (by decide +kernel) rfl
theorem fl_X0_31 : gFL RX0 31 0 4 .int false := ⟨RX0, TX0, 5, tyX0, rfl, by decide, inW_RX0, kw_714, tyX0_ok, nmX0, rfl, by decide +kernel, fun h => by cases h⟩
/-- everything told stays told; all but t stays as it is -/
def gEx (t : Nat) (F F' : gM) : Prop := ∀ x, F x ≠ g0 → F' x ≠ g0 ∧ (x ≠ t → F' x = F x)
theorem gEx.rf {t : Nat} {F : gM} : gEx t F F := fun _ h => ⟨h, fun _ => rfl⟩
theorem gEx.tr {t : Nat} {F F1 F2 : gM} (h : gEx t F F1) (h2 : gEx t F1 F2) : gEx t F F2 := fun x hx => ⟨(h2 x (h x hx).1).1, fun e => ((h2 x (h x hx).1).2 e).trans ((h x hx).2 e)⟩
theorem gEx.up {t a : Nat} {F : gM} {e : va_E} (h : F a = g0 ∨ a = t) (he : e ≠ g0) : gEx t F (va_up F a e) := fun x hx => by
  by_cases c : x = a
  · subst c
    rw [va_up_self]
    exact ⟨he, fun z => h.elim (fun q => absurd q hx) (fun q => absurd q z)⟩
  · rw [va_up_ne _ _ c]
    exact ⟨hx, fun _ => rfl⟩
/-- a callee's own: it may change a, new since F -/
theorem gEx.call {t a : Nat} {F F1 F2 : gM} (h : gEx t F F1) (ha : F a = g0) (h2 : gEx a F1 F2) : gEx t F F2 := fun x hx => ⟨(h2 x (h x hx).1).1, fun e => ((h2 x (h x hx).1).2 (fun z => hx (by rw [z]; exact ha))).trans ((h x hx).2 e)⟩
theorem gEx.g0 {t a : Nat} {F F1 : gM} (h : gEx t F F1) (h1 : F1 a = g0) : F a = g0 := Classical.byContradiction fun q => (h a q).1 h1
/-- what a new cell is: 0 an empty row, 1 a row, 2 an array of 0s -/
def gNk (d : gD) (F' : gM) (p : Nat × Nat × Nat × Nat) : Prop := (p.2.2.2 = 0 ∧ gIn d F' p.1 p.2.1 p.2.2.1 16 0 (fun _ => 0)) ∨ (p.2.2.2 = 1 ∧ ∃ n z f, gIn d F' p.1 p.2.1 p.2.2.1 n z f) ∨ (p.2.2.2 = 2 ∧ p.1 = p.2.1 ∧ F' p.2.1 = .inl (gI d, p.2.2.1, .inl (fun _ => 0)))
/-- cells made since F: (where, the row's cells, the most, what) -/
def gNw (d : gD) (F F' : gM) (L : List (Nat × Nat × Nat × Nat)) : Prop :=
  (∀ p ∈ L, gNk d F' p ∧ F p.1 = g0 ∧ F p.2.1 = g0) ∧ (L.map (fun p => p.1)).Nodup ∧ (L.map (fun p => p.2.1)).Nodup
theorem gNw.nil {d : gD} {F F' : gM} : gNw d F F' [] := ⟨fun p h => absurd h List.not_mem_nil, List.nodup_nil, List.nodup_nil⟩
theorem gIn.kept {d : gD} {F F' : gM} {a q mo n z : Nat} {f : Nat → Int32} (h : gIn d F a q mo n z f) (h1 : F' a = F a) (h2 : F' q = F q) : gIn d F' a q mo n z f := ⟨h1.trans h.1, h2.trans h.2.1, h.2.2⟩
theorem gIn.na {d : gD} {F : gM} {a q mo n z : Nat} {f : Nat → Int32} (h : gIn d F a q mo n z f) : F a ≠ g0 ∧ F q ≠ g0 := ⟨by rw [h.1]; exact g0_o, by rw [h.2.1]; exact g0_a⟩
theorem gNk.na {d : gD} {F : gM} {p : Nat × Nat × Nat × Nat} (h : gNk d F p) : F p.1 ≠ g0 ∧ F p.2.1 ≠ g0 := by
  rcases h with ⟨-, h⟩ | ⟨-, n, z, f, h⟩ | ⟨-, e, h⟩
  · exact h.na
  · exact h.na
  · exact ⟨by rw [e, h]; exact g0_a, by rw [h]; exact g0_a⟩
theorem gNk.kept {d : gD} {F F' : gM} {p : Nat × Nat × Nat × Nat} (h : gNk d F p) (h1 : F' p.1 = F p.1) (h2 : F' p.2.1 = F p.2.1) : gNk d F' p := by
  rcases h with ⟨e, h⟩ | ⟨e, n, z, f, h⟩ | ⟨e, e2, h⟩
  · exact Or.inl ⟨e, h.kept h1 h2⟩
  · exact Or.inr (Or.inl ⟨e, n, z, f, h.kept h1 h2⟩)
  · exact Or.inr (Or.inr ⟨e, e2, h2.trans h⟩)
theorem gNk.nz {d : gD} {F : gM} {p : Nat × Nat × Nat × Nat} (h : gNk d F p) {z n : Nat} {r : (Nat → Int64) ⊕ (Nat → UInt32) ⊕ (Nat → UInt64) ⊕ (Nat → Option Nat)} {c : ClassId} (hz : F z = .inl (c, n, .inr r)) : p.1 ≠ z ∧ p.2.1 ≠ z := by
  rcases h with ⟨-, h⟩ | ⟨-, n, z, f, h⟩ | ⟨-, e, h⟩
  · exact ⟨gne h.1 hz gk_oa, Ne.symm (gne hz h.2.1 gk_rl)⟩
  · exact ⟨gne h.1 hz gk_oa, Ne.symm (gne hz h.2.1 gk_rl)⟩
  · exact ⟨by rw [e]; exact Ne.symm (gne hz h gk_rl), Ne.symm (gne hz h gk_rl)⟩
theorem gNw.app {d : gD} {t : Nat} {F F1 F2 F3 : gM} {L L2 : List (Nat × Nat × Nat × Nat)} (h : gNw d F F1 L) (e1 : gEx t F F1) (ht : F t ≠ g0) (h2 : gNw d F2 F3 L2) (e2 : ∀ x, F1 x ≠ g0 → F2 x ≠ g0) (e3 : ∀ x, x ≠ t → F1 x ≠ g0 → (∃ p ∈ L, x = p.1 ∨ x = p.2.1) → F3 x = F1 x) : gNw d F F3 (L ++ L2) := by
  have nt : ∀ p ∈ L, p.1 ≠ t ∧ p.2.1 ≠ t := fun p hp => ⟨fun e => ht (by rw [← e]; exact (h.1 p hp).2.1), fun e => ht (by rw [← e]; exact (h.1 p hp).2.2)⟩
  have back : ∀ x, F2 x = g0 → F x = g0 := fun x hx => Classical.byContradiction fun q => e2 x (e1 x q).1 hx
  refine ⟨fun p hp => ?_, ?_, ?_⟩
  · rcases List.mem_append.mp hp with hp | hp
    · obtain ⟨h3, h4⟩ := h.1 p hp
      exact ⟨h3.kept (e3 _ (nt p hp).1 h3.na.1 ⟨p, hp, Or.inl rfl⟩) (e3 _ (nt p hp).2 h3.na.2 ⟨p, hp, Or.inr rfl⟩), h4⟩
    · obtain ⟨h3, h4, h5⟩ := h2.1 p hp
      exact ⟨h3, back _ h4, back _ h5⟩
  · rw [List.map_append, List.nodup_append]
    refine ⟨h.2.1, h2.2.1, fun x hx y hy e => ?_⟩
    obtain ⟨p, hp, rfl⟩ := List.mem_map.mp hx
    obtain ⟨q, hq, rfl⟩ := List.mem_map.mp hy
    exact e2 _ (h.1 p hp).1.na.1 (by rw [show p.1 = q.1 from e]; exact (h2.1 q hq).2.1)
  · rw [List.map_append, List.nodup_append]
    refine ⟨h.2.2, h2.2.2, fun x hx y hy e => ?_⟩
    obtain ⟨p, hp, rfl⟩ := List.mem_map.mp hx
    obtain ⟨q, hq, rfl⟩ := List.mem_map.mp hy
    exact e2 _ (h.1 p hp).1.na.2 (by rw [show p.2.1 = q.2.1 from e]; exact (h2.1 q hq).2.2)
/-- a constructor at work on t, begun at F -/
def gCn (d : gD) (t ci : Nat) (F F' : gM) (fs : List Value) (L : List (Nat × Nat × Nat × Nat)) : Prop := F' t = .inr (ci, fs) ∧ F t ≠ g0 ∧ gEx t F F' ∧ gNw d F F' L
theorem gCn.put {d : gD} {t ci : Nat} {F F1 F2 : gM} {fs : List Value} {v : Value} {fs2 : List Value} {L : List (Nat × Nat × Nat × Nat)} (h : gCn d t ci F F1 fs L) (hF : F2 = va_up F1 t (.inr (ci, v :: fs2))) : gCn d t ci F F2 (v :: fs2) L := by
  have e : gEx t F1 F2 := by rw [hF]; exact gEx.up (Or.inr rfl) g0_o
  refine ⟨by rw [hF]; exact va_up_self _ _ _, h.2.1, h.2.2.1.tr e, ?_⟩
  have q := h.2.2.2.app (F2 := F1) (F3 := F2) (L2 := []) h.2.2.1 h.2.1 gNw.nil (fun _ z => z) (fun x hx hn _ => (e x hn).2 hx)
  rw [List.append_nil] at q
  exact q
theorem gNw.one {d : gD} {F F' : gM} {p : Nat × Nat × Nat × Nat} (h : gNk d F' p) (h1 : F p.1 = g0) (h2 : F p.2.1 = g0) : gNw d F F' [p] := ⟨fun q hq => by
  cases List.mem_singleton.mp hq
  exact ⟨h, h1, h2⟩, List.nodup_cons.mpr ⟨List.not_mem_nil, List.nodup_nil⟩, List.nodup_cons.mpr ⟨List.not_mem_nil, List.nodup_nil⟩⟩
/-- cells come, none of the old ones changes -/
theorem gCn.more {d : gD} {t ci : Nat} {F F1 F2 F3 : gM} {fs : List Value} {L L2 : List (Nat × Nat × Nat × Nat)} (h : gCn d t ci F F1 fs L) (e2 : ∀ x, F1 x ≠ g0 → F2 x ≠ g0) (e3 : ∀ x, F1 x ≠ g0 → F3 x = F1 x) (h2 : gNw d F2 F3 L2) : gCn d t ci F F3 fs (L ++ L2) :=
  ⟨(e3 t (by rw [h.1]; exact fun z => h.2.1 (by
    have := (h.2.2.1 t h.2.1).1
    rw [h.1] at this
    exact absurd z this))).trans h.1, h.2.1, h.2.2.1.tr (fun x hx => ⟨by rw [e3 x hx]; exact hx, fun _ => e3 x hx⟩), h.2.2.2.app h.2.2.1 h.2.1 h2 e2 (fun x _ hn _ => e3 x hn)⟩
theorem gCn.newz {d : gD} {t ci z : Nat} {F F1 F2 : gM} {fs : List Value} {L : List (Nat × Nat × Nat × Nat)} {e : va_E} (h : gCn d t ci F F1 fs L) (hz : F1 z = g0) (hF : F2 = va_up F1 z e) : gCn d t ci F F2 fs L ∧ ∀ x, F1 x ≠ g0 → F2 x = F1 x := by
  have k : ∀ x, F1 x ≠ g0 → F2 x = F1 x := fun x hx => by rw [hF, va_up_ne _ _ (fun q => hx (by rw [q]; exact hz))]
  have q := h.more (F2 := F2) (F3 := F2) (L2 := []) (fun x hx => by rw [k x hx]; exact hx) k gNw.nil
  rw [List.append_nil] at q
  exact ⟨q, k⟩
theorem gCn.arr {d : gD} {t ci q n : Nat} {F F1 F2 : gM} {fs : List Value} {L : List (Nat × Nat × Nat × Nat)} (h : gCn d t ci F F1 fs L) (hq : F1 q = g0) (hF : F2 = va_up F1 q (.inl (gI d, n, .inl (fun _ => 0)))) : gCn d t ci F F2 fs (L ++ [(q, q, n, 2)]) ∧ ∀ x, F1 x ≠ g0 → F2 x = F1 x := by
  have k : ∀ x, F1 x ≠ g0 → F2 x = F1 x := fun x hx => by rw [hF, va_up_ne _ _ (fun z => hx (by rw [z]; exact hq))]
  exact ⟨h.more (F2 := F1) (fun _ z => z) k (gNw.one (Or.inr (Or.inr ⟨rfl, rfl, by rw [hF]; exact va_up_self _ _ _⟩)) hq hq), k⟩
theorem gCn.ints {d : gD} {t ci a mo : Nat} {F F1 F2 F3 : gM} {fs : List Value} {L : List (Nat × Nat × Nat × Nat)} {e : va_E} (h : gCn d t ci F F1 fs L) (ha : F1 a = g0) (hF : F2 = va_up F1 a e) (he : e ≠ g0) (hp : ∃ q : Nat, F2 q = g0 ∧ gIn d F3 a q mo 16 0 (fun _ => 0) ∧ ∀ x : Nat, x ≠ a → F2 x ≠ g0 → F3 x = F2 x) : ∃ q : Nat, gCn d t ci F F3 fs (L ++ [(a, q, mo, 0)]) ∧ F1 q = g0 ∧ gIn d F3 a q mo 16 0 (fun _ => 0) ∧ ∀ x, F1 x ≠ g0 → F3 x = F1 x := by
  obtain ⟨q, hq, hin, hk⟩ := hp
  have hqa : q ≠ a := fun z => by rw [z, hF, va_up_self] at hq; exact he hq
  have hq1 : F1 q = g0 := by rw [hF, va_up_ne _ _ hqa] at hq; exact hq
  have k : ∀ x, F1 x ≠ g0 → F3 x = F1 x := fun x hx => by
    have hxa : x ≠ a := fun z => hx (by rw [z]; exact ha)
    have e1 : F2 x = F1 x := by rw [hF, va_up_ne _ _ hxa]
    exact (hk x hxa (by rw [e1]; exact hx)).trans e1
  exact ⟨q, h.more (F2 := F1) (fun _ z => z) k (gNw.one (Or.inl ⟨rfl, hin⟩) ha hq1), hq1, hin, k⟩
theorem gCn.call {d : gD} {t ci a c2 : Nat} {F F1 F2 F3 : gM} {fs fs2 : List Value} {L L2 : List (Nat × Nat × Nat × Nat)} {e : va_E} (h : gCn d t ci F F1 fs L) (ha : F1 a = g0) (hF : F2 = va_up F1 a e) (he : e ≠ g0) (h2 : gCn d a c2 F2 F3 fs2 L2) : gCn d t ci F F3 fs (L ++ L2) ∧ ∀ x, F1 x ≠ g0 → F3 x = F1 x := by
  have k1 : ∀ x, F1 x ≠ g0 → F2 x = F1 x := fun x hx => by rw [hF, va_up_ne _ _ (fun z => hx (by rw [z]; exact ha))]
  have k : ∀ x, F1 x ≠ g0 → F3 x = F1 x := fun x hx => ((h2.2.2.1 x (by rw [k1 x hx]; exact hx)).2 (fun z => hx (by rw [z]; exact ha))).trans (k1 x hx)
  exact ⟨h.more (F2 := F2) (fun x hx => by rw [k1 x hx]; exact hx) k h2.2.2.2, k⟩
theorem gCn.upz {d : gD} {t ci z n n2 : Nat} {F F1 F2 : gM} {fs : List Value} {L : List (Nat × Nat × Nat × Nat)} {r r2 : (Nat → Int64) ⊕ (Nat → UInt32) ⊕ (Nat → UInt64) ⊕ (Nat → Option Nat)} (h : gCn d t ci F F1 fs L) (hz : F1 z = .inl (gO d, n, .inr r)) (h0 : F z = g0) (hF : F2 = va_up F1 z (.inl (gO d, n2, .inr r2))) : gCn d t ci F F2 fs L ∧ ∀ x, x ≠ z → F2 x = F1 x := by
  have k : ∀ x, x ≠ z → F2 x = F1 x := fun x hx => by rw [hF, va_up_ne _ _ hx]
  have ht : t ≠ z := gne h.1 hz gk_oa
  have q := h.2.2.2.app (F2 := F1) (F3 := F2) (L2 := []) h.2.2.1 h.2.1 gNw.nil (fun _ z => z) (fun x _ _ hp => by
    obtain ⟨p, hp, e⟩ := hp
    have h3 := (h.2.2.2.1 p hp).1.nz hz
    rcases e with rfl | rfl
    · exact k _ h3.1
    · exact k _ h3.2)
  rw [List.append_nil] at q
  exact ⟨⟨(k t ht).trans h.1, h.2.1, fun x hx => ⟨by rw [k x (fun e => hx (by rw [e]; exact h0))]; exact (h.2.2.1 x hx).1, fun hxt => (k x (fun e => hx (by rw [e]; exact h0))).trans ((h.2.2.1 x hx).2 hxt)⟩, q⟩, k⟩
section GC
variable {own : String} {cc : ByteArray} {nL : Nat} {rt : Option FieldType} {R : Room} {d : gD} {b : Nat} {X : gX} {Q : State → Prop} {F F0 : gM} {k n pc : Nat} {lv : List (Option Value)} {st : List Value} {lw mc ms : Nat}
theorem g_putC (hC : gC own cc nL rt "<init>" R d b X) {t ci idx j : Nat} {ty : FieldType} {fin : Bool} {v0 v : Value} {fs fs2 : List Value} {L : List (Nat × Nat × Nat × Nat)} {v2 : Value} (h : gCn d t ci F0 F (v0 :: fs) L) (hl : gFL own idx ci j ty fin) (hn : narrow ty v = v) (hfit : fits ty v = true) (hj : j < (v0 :: fs).length) (hs : (v0 :: fs).set j v = v2 :: fs2) (hdg : decode cc pc = .ok (.putfield idx, 3))
    (kk : ∀ F' : gM, gCn d t ci F0 F' (v2 :: fs2) L → (∀ x, x ≠ t → F' x = F x) → gG X d b Q F' k n (pc + 3) lv st) : gG X d b Q F k n pc lv (v :: .ref t :: st) := by
  cases fin with
  | false =>
    refine g_put hC hl h.1 hn hfit hj hdg (g_vF (fun F' e => ?_))
    rw [hs] at e
    exact kk F' (h.put e) (fun x hx => by rw [e, va_up_ne _ _ hx])
  | true =>
    refine g_putF hC hl h.1 hn hfit hj hdg (g_vF (fun F' e => ?_))
    rw [hs] at e
    exact kk F' (h.put e) (fun x hx => by rw [e, va_up_ne _ _ hx])
/-- new Ints(mo), put -/
theorem g_newInts (mo : Nat) (hC : gC own cc nL rt "<init>" (gR lw mc ms) d b X) {t ci iN iI iF j c : Nat} {ty : FieldType} {fin : Bool} {v0 : Value} {fs : List Value} {L : List (Nat × Nat × Nat × Nat)} (h : gCn d t ci F0 F (v0 :: fs) L) (hlv : lv[0]? = some (some (.ref t))) (hn : nL = lv.length) (hm : 16 ≤ mo) (hM : mo ≤ 1000000)
    (d0 : decode cc pc = .ok (.aload_n 0, 1)) (d1 : decode cc (pc + 1) = .ok (.new iN, 3)) (d4 : decode cc (pc + 1 + 3) = .ok (.dup, 1)) (hc : ∀ (F' : gM) (k' n' : Nat) (st' : List Value), gG X d b Q F' k' n' (pc + 1 + 3 + 1 + c) lv (.int (nI mo) :: st') → gG X d b Q F' k' n' (pc + 1 + 3 + 1) lv st') (d5 : decode cc (pc + 1 + 3 + 1 + c) = .ok (.invokespecial iI, 3)) (d6 : decode cc (pc + 1 + 3 + 1 + c + 3) = .ok (.putfield iF, 3))
    (hN : gNL own iN 4 3 [.int 0, .null, .int 0]) (hI : gCI own iI yX4_init cX4_init 2 1) (hl : gFL own iF ci j ty fin) (hty : ∀ a : Nat, narrow ty (.ref a) = .ref a ∧ fits ty (.ref a) = true) (hj : j < (v0 :: fs).length) (hs : ∀ a : Nat, ∃ v2 fs2, (v0 :: fs).set j (.ref a) = v2 :: fs2) (hk : k + 2 ≤ mc) (hsl : n + 19 ≤ ms) (hw : 2 ≤ lw) (hst : (st.map fun v => v.category).sum ≤ 4)
    (kk : ∀ (a q : Nat) (F' : gM), gCn d t ci F0 F' ((v0 :: fs).set j (.ref a)) (L ++ [(a, q, mo, 0)]) → F a = g0 → (∀ x, x ≠ t → F x ≠ g0 → F' x = F x) → gG X d b Q F' (k + 2) (n + 19) (pc + 11 + c) lv st) : gG X d b Q F k n pc lv st := by
  refine g_aload_n hC d0 hlv ?_
  refine g_new hC hN (gRc (Nat.le_trans (by omega) hk)) (gRs (Nat.le_trans (by omega) hsl)) d1 (fun a ha => ?_)
  refine g_dup hC d4 rfl ?_
  refine hc _ _ _ _ ?_
  have hta : t ≠ a := gne h.1 ha g0_o
  refine g_callIv (As := [.int (nI mo)]) hC (c_Ints_init X.la d b _ a mo (va_up_self _ _ _) hm hM) hI rfl hn (by
    show 1 + (1 + (st.map fun v => v.category).sum) ≤ 8
    omega) (gFit_of hw (by decide) (by omega) (by omega)) d5 (fun F2 hp => ?_)
  obtain ⟨q, hq, hin, hkeep⟩ := hp
  have hF2t : F2 t = .inr (ci, v0 :: fs) := (hkeep t hta (by rw [va_up_ne _ _ hta, h.1]; exact g0_o)).trans ((va_up_ne _ _ hta).trans h.1)
  have hqF : F q = g0 := by
    have hne : q ≠ a := fun e => by rw [e, va_up_self] at hq; exact g0_o hq
    rw [va_up_ne _ _ hne] at hq
    exact hq
  have x1 : gEx t F F2 := fun x hx => by
    have hxa : x ≠ a := fun e => hx (by rw [e]; exact ha)
    have e1 : F2 x = F x := (hkeep x hxa (by rw [va_up_ne _ _ hxa]; exact hx)).trans (va_up_ne _ _ hxa)
    exact ⟨by rw [e1]; exact hx, fun _ => e1⟩
  have hnw : gNw d F F2 [(a, q, mo, 0)] := gNw.one (Or.inl ⟨rfl, hin⟩) ha hqF
  have hcn : gCn d t ci F0 F2 (v0 :: fs) (L ++ [(a, q, mo, 0)]) := ⟨hF2t, h.2.1, h.2.2.1.tr x1, h.2.2.2.app h.2.2.1 h.2.1 hnw (fun _ z => z) (fun x _ hn _ => by
    have hxa : x ≠ a := fun e => hn (by rw [e]; exact ha)
    exact (hkeep x hxa (by rw [va_up_ne _ _ hxa]; exact hn)).trans (va_up_ne _ _ hxa))⟩
  obtain ⟨v2, fs2, e2⟩ := hs a
  refine g_putC hC hcn hl (hty a).1 (hty a).2 hj e2 d6 (fun F3 h3 h4 => ?_)
  rw [← e2] at h3
  have e9 : pc + 1 + 3 + 1 + c + 3 + 3 = pc + 11 + c := by omega
  rw [e9]
  exact g_kn rfl rfl (kk a q F3 h3 ha (fun x hx hn => (h4 x hx).trans ((x1 x hn).2 hx)))
end GC
theorem dX7_init_0 : decode cX7_init 0 = .ok (.aload_n 0, 1) := by decide +kernel
theorem dX7_init_1 : decode cX7_init 1 = .ok (.invokespecial 3, 3) := by decide +kernel
theorem dX7_init_4 : decode cX7_init 4 = .ok (.aload_n 0, 1) := by decide +kernel
theorem dX7_init_5 : decode cX7_init 5 = .ok (.new 9, 3) := by decide +kernel
theorem dX7_init_8 : decode cX7_init 8 = .ok (.dup, 1) := by decide +kernel
theorem dX7_init_9 : decode cX7_init 9 = .ok (.ldc 11, 2) := by decide +kernel
theorem dX7_init_11 : decode cX7_init 11 = .ok (.invokespecial 12, 3) := by decide +kernel
theorem dX7_init_14 : decode cX7_init 14 = .ok (.putfield 15, 3) := by decide +kernel
theorem dX7_init_17 : decode cX7_init 17 = .ok (.aload_n 0, 1) := by decide +kernel
theorem dX7_init_18 : decode cX7_init 18 = .ok (.new 9, 3) := by decide +kernel
theorem dX7_init_21 : decode cX7_init 21 = .ok (.dup, 1) := by decide +kernel
theorem dX7_init_22 : decode cX7_init 22 = .ok (.ldc 11, 2) := by decide +kernel
theorem dX7_init_24 : decode cX7_init 24 = .ok (.invokespecial 12, 3) := by decide +kernel
theorem dX7_init_27 : decode cX7_init 27 = .ok (.putfield 21, 3) := by decide +kernel
theorem dX7_init_30 : decode cX7_init 30 = .ok (.aload_n 0, 1) := by decide +kernel
theorem dX7_init_31 : decode cX7_init 31 = .ok (.new 9, 3) := by decide +kernel
theorem dX7_init_34 : decode cX7_init 34 = .ok (.dup, 1) := by decide +kernel
theorem dX7_init_35 : decode cX7_init 35 = .ok (.ldc 11, 2) := by decide +kernel
theorem dX7_init_37 : decode cX7_init 37 = .ok (.invokespecial 12, 3) := by decide +kernel
theorem dX7_init_40 : decode cX7_init 40 = .ok (.putfield 24, 3) := by decide +kernel
theorem dX7_init_43 : decode cX7_init 43 = .ok (.aload_n 0, 1) := by decide +kernel
theorem dX7_init_44 : decode cX7_init 44 = .ok (.new 9, 3) := by decide +kernel
theorem dX7_init_47 : decode cX7_init 47 = .ok (.dup, 1) := by decide +kernel
theorem dX7_init_48 : decode cX7_init 48 = .ok (.ldc 11, 2) := by decide +kernel
theorem dX7_init_50 : decode cX7_init 50 = .ok (.invokespecial 12, 3) := by decide +kernel
theorem dX7_init_53 : decode cX7_init 53 = .ok (.putfield 27, 3) := by decide +kernel
theorem dX7_init_56 : decode cX7_init 56 = .ok (.aload_n 0, 1) := by decide +kernel
theorem dX7_init_57 : decode cX7_init 57 = .ok (.new 9, 3) := by decide +kernel
theorem dX7_init_60 : decode cX7_init 60 = .ok (.dup, 1) := by decide +kernel
theorem dX7_init_61 : decode cX7_init 61 = .ok (.ldc 11, 2) := by decide +kernel
theorem dX7_init_63 : decode cX7_init 63 = .ok (.invokespecial 12, 3) := by decide +kernel
theorem dX7_init_66 : decode cX7_init 66 = .ok (.putfield 30, 3) := by decide +kernel
theorem dX7_init_69 : decode cX7_init 69 = .ok (.aload_n 0, 1) := by decide +kernel
theorem dX7_init_70 : decode cX7_init 70 = .ok (.new 9, 3) := by decide +kernel
theorem dX7_init_73 : decode cX7_init 73 = .ok (.dup, 1) := by decide +kernel
theorem dX7_init_74 : decode cX7_init 74 = .ok (.ldc 11, 2) := by decide +kernel
theorem dX7_init_76 : decode cX7_init 76 = .ok (.invokespecial 12, 3) := by decide +kernel
theorem dX7_init_79 : decode cX7_init 79 = .ok (.putfield 33, 3) := by decide +kernel
theorem dX7_init_82 : decode cX7_init 82 = .ok (.aload_n 0, 1) := by decide +kernel
theorem dX7_init_83 : decode cX7_init 83 = .ok (.sipush 4096, 3) := by decide +kernel
theorem dX7_init_86 : decode cX7_init 86 = .ok (.putfield 36, 3) := by decide +kernel
theorem dX7_init_89 : decode cX7_init 89 = .ok (.aload_n 0, 1) := by decide +kernel
theorem dX7_init_90 : decode cX7_init 90 = .ok (.iconst (-1), 1) := by decide +kernel
theorem dX7_init_91 : decode cX7_init 91 = .ok (.putfield 40, 3) := by decide +kernel
theorem dX7_init_94 : decode cX7_init 94 = .ok (.aload_n 0, 1) := by decide +kernel
theorem dX7_init_95 : decode cX7_init 95 = .ok (.iconst 0, 1) := by decide +kernel
theorem dX7_init_96 : decode cX7_init 96 = .ok (.putfield 43, 3) := by decide +kernel
theorem dX7_init_99 : decode cX7_init 99 = .ok (.aload_n 0, 1) := by decide +kernel
theorem dX7_init_100 : decode cX7_init 100 = .ok (.iconst 0, 1) := by decide +kernel
theorem dX7_init_101 : decode cX7_init 101 = .ok (.putfield 46, 3) := by decide +kernel
theorem dX7_init_104 : decode cX7_init 104 = .ok (.aload_n 0, 1) := by decide +kernel
theorem dX7_init_105 : decode cX7_init 105 = .ok (.iconst 0, 1) := by decide +kernel
theorem dX7_init_106 : decode cX7_init 106 = .ok (.putfield 49, 3) := by decide +kernel
theorem dX7_init_109 : decode cX7_init 109 = .ok (.return_, 1) := by decide +kernel
set_option maxHeartbeats 4000000 in
set_option maxRecDepth 100000 in
theorem k_P (l : Launch) (d : gD) (b : Nat) (F : gM) (t : Nat)  (h : F t = .inr (7, [.null, .null, .null, .null, .null, .null, .int 0, .int 0, .int 0, .int 0, .int 0]))  : gMv l d b yX7_init cX7_init 1 3 12 114 F [.ref t] (fun F' => ∃ a0 q1 a2 q3 a4 q5 a6 q7 a8 q9 a10 q11 : Nat, gCn d t 7 F F' [.ref a0, .ref a2, .ref a4, .ref a6, .ref a8, .ref a10, .int 4096, .int (-1), .int 0, .int 0, .int 0] [(a0, q1, 1000000, 0), (a2, q3, 1000000, 0), (a4, q5, 1000000, 0), (a6, q7, 1000000, 0), (a8, q9, 1000000, 0), (a10, q11, 1000000, 0)]) := by
  refine gM_of2 rfl (nL := 1) (Nat.le_of_ble_eq_true rfl) ?_
  intro X hX hC; subst hX
  show gG X d b _ F 0 0 0 [some (.ref t)] []
  have hcn : gCn d t 7 F F [.null, .null, .null, .null, .null, .null, .int 0, .int 0, .int 0, .int 0, .int 0] [] := ⟨h, by rw [h]; exact g0_o, gEx.rf, gNw.nil⟩
  refine g_aload_n hC dX7_init_0 rfl ?_
  refine g_objInit hC dX7_init_1 kw_294 rfl ⟨Nat.le_of_ble_eq_true rfl, Nat.le_of_ble_eq_true rfl⟩ (Nat.le_of_ble_eq_true rfl) ?_
  refine g_newInts 1000000 hC hcn rfl rfl (by decide) (by decide) dX7_init_4 dX7_init_5 dX7_init_8 (fun _ _ _ _ kk => g_ldc hC dX7_init_9 kw_296 kk) dX7_init_11 dX7_init_14 nl_X7_9 cl_X7_12 fl_X7_15 (fun _ => ⟨rfl, rfl⟩) (Nat.le_of_ble_eq_true rfl) (fun _ => ⟨_, _, rfl⟩) (by first | exact Nat.le_of_ble_eq_true rfl | omega | (simp only [gR]; omega)) (by first | exact Nat.le_of_ble_eq_true rfl | omega | (simp only [gR]; omega)) (Nat.le_of_ble_eq_true rfl) (Nat.le_of_ble_eq_true rfl) (fun a1 q2 F3 h4 e6 hx7 => ?_)
  have hcn5 : gCn d t 7 F F3 [.ref a1, .null, .null, .null, .null, .null, .int 0, .int 0, .int 0, .int 0, .int 0] [(a1, q2, 1000000, 0)] := h4
  refine g_newInts 1000000 hC hcn5 rfl rfl (by decide) (by decide) dX7_init_17 dX7_init_18 dX7_init_21 (fun _ _ _ _ kk => g_ldc hC dX7_init_22 kw_296 kk) dX7_init_24 dX7_init_27 nl_X7_9 cl_X7_12 fl_X7_21 (fun _ => ⟨rfl, rfl⟩) (Nat.le_of_ble_eq_true rfl) (fun _ => ⟨_, _, rfl⟩) (by first | exact Nat.le_of_ble_eq_true rfl | omega | (simp only [gR]; omega)) (by first | exact Nat.le_of_ble_eq_true rfl | omega | (simp only [gR]; omega)) (Nat.le_of_ble_eq_true rfl) (Nat.le_of_ble_eq_true rfl) (fun a8 q9 F10 h11 e13 hx14 => ?_)
  have hcn12 : gCn d t 7 F F10 [.ref a1, .ref a8, .null, .null, .null, .null, .int 0, .int 0, .int 0, .int 0, .int 0] [(a1, q2, 1000000, 0), (a8, q9, 1000000, 0)] := h11
  refine g_newInts 1000000 hC hcn12 rfl rfl (by decide) (by decide) dX7_init_30 dX7_init_31 dX7_init_34 (fun _ _ _ _ kk => g_ldc hC dX7_init_35 kw_296 kk) dX7_init_37 dX7_init_40 nl_X7_9 cl_X7_12 fl_X7_24 (fun _ => ⟨rfl, rfl⟩) (Nat.le_of_ble_eq_true rfl) (fun _ => ⟨_, _, rfl⟩) (by first | exact Nat.le_of_ble_eq_true rfl | omega | (simp only [gR]; omega)) (by first | exact Nat.le_of_ble_eq_true rfl | omega | (simp only [gR]; omega)) (Nat.le_of_ble_eq_true rfl) (Nat.le_of_ble_eq_true rfl) (fun a15 q16 F17 h18 e20 hx21 => ?_)
  have hcn19 : gCn d t 7 F F17 [.ref a1, .ref a8, .ref a15, .null, .null, .null, .int 0, .int 0, .int 0, .int 0, .int 0] [(a1, q2, 1000000, 0), (a8, q9, 1000000, 0), (a15, q16, 1000000, 0)] := h18
  refine g_newInts 1000000 hC hcn19 rfl rfl (by decide) (by decide) dX7_init_43 dX7_init_44 dX7_init_47 (fun _ _ _ _ kk => g_ldc hC dX7_init_48 kw_296 kk) dX7_init_50 dX7_init_53 nl_X7_9 cl_X7_12 fl_X7_27 (fun _ => ⟨rfl, rfl⟩) (Nat.le_of_ble_eq_true rfl) (fun _ => ⟨_, _, rfl⟩) (by first | exact Nat.le_of_ble_eq_true rfl | omega | (simp only [gR]; omega)) (by first | exact Nat.le_of_ble_eq_true rfl | omega | (simp only [gR]; omega)) (Nat.le_of_ble_eq_true rfl) (Nat.le_of_ble_eq_true rfl) (fun a22 q23 F24 h25 e27 hx28 => ?_)
  have hcn26 : gCn d t 7 F F24 [.ref a1, .ref a8, .ref a15, .ref a22, .null, .null, .int 0, .int 0, .int 0, .int 0, .int 0] [(a1, q2, 1000000, 0), (a8, q9, 1000000, 0), (a15, q16, 1000000, 0), (a22, q23, 1000000, 0)] := h25
  refine g_newInts 1000000 hC hcn26 rfl rfl (by decide) (by decide) dX7_init_56 dX7_init_57 dX7_init_60 (fun _ _ _ _ kk => g_ldc hC dX7_init_61 kw_296 kk) dX7_init_63 dX7_init_66 nl_X7_9 cl_X7_12 fl_X7_30 (fun _ => ⟨rfl, rfl⟩) (Nat.le_of_ble_eq_true rfl) (fun _ => ⟨_, _, rfl⟩) (by first | exact Nat.le_of_ble_eq_true rfl | omega | (simp only [gR]; omega)) (by first | exact Nat.le_of_ble_eq_true rfl | omega | (simp only [gR]; omega)) (Nat.le_of_ble_eq_true rfl) (Nat.le_of_ble_eq_true rfl) (fun a29 q30 F31 h32 e34 hx35 => ?_)
  have hcn33 : gCn d t 7 F F31 [.ref a1, .ref a8, .ref a15, .ref a22, .ref a29, .null, .int 0, .int 0, .int 0, .int 0, .int 0] [(a1, q2, 1000000, 0), (a8, q9, 1000000, 0), (a15, q16, 1000000, 0), (a22, q23, 1000000, 0), (a29, q30, 1000000, 0)] := h32
  refine g_newInts 1000000 hC hcn33 rfl rfl (by decide) (by decide) dX7_init_69 dX7_init_70 dX7_init_73 (fun _ _ _ _ kk => g_ldc hC dX7_init_74 kw_296 kk) dX7_init_76 dX7_init_79 nl_X7_9 cl_X7_12 fl_X7_33 (fun _ => ⟨rfl, rfl⟩) (Nat.le_of_ble_eq_true rfl) (fun _ => ⟨_, _, rfl⟩) (by first | exact Nat.le_of_ble_eq_true rfl | omega | (simp only [gR]; omega)) (by first | exact Nat.le_of_ble_eq_true rfl | omega | (simp only [gR]; omega)) (Nat.le_of_ble_eq_true rfl) (Nat.le_of_ble_eq_true rfl) (fun a36 q37 F38 h39 e41 hx42 => ?_)
  have hcn40 : gCn d t 7 F F38 [.ref a1, .ref a8, .ref a15, .ref a22, .ref a29, .ref a36, .int 0, .int 0, .int 0, .int 0, .int 0] [(a1, q2, 1000000, 0), (a8, q9, 1000000, 0), (a15, q16, 1000000, 0), (a22, q23, 1000000, 0), (a29, q30, 1000000, 0), (a36, q37, 1000000, 0)] := h39
  refine g_aload_n hC dX7_init_82 rfl ?_
  refine g_sipush (v := 4096) hC dX7_init_83 rfl ?_
  refine g_putC hC hcn40 fl_X7_36 rfl rfl (Nat.le_of_ble_eq_true rfl) rfl dX7_init_86 (fun F43 hcn44 hx45 => ?_)
  have hx46 : ∀ x, x ≠ t → F38 x ≠ g0 → F43 x = F38 x := fun x q _ => hx45 x q
  refine g_aload_n hC dX7_init_89 rfl ?_
  refine g_iconst (v := (-1)) hC dX7_init_90 rfl ?_
  refine g_putC hC hcn44 fl_X7_40 rfl rfl (Nat.le_of_ble_eq_true rfl) rfl dX7_init_91 (fun F47 hcn48 hx49 => ?_)
  have hx50 : ∀ x, x ≠ t → F43 x ≠ g0 → F47 x = F43 x := fun x q _ => hx49 x q
  refine g_aload_n hC dX7_init_94 rfl ?_
  refine g_iconst (v := 0) hC dX7_init_95 rfl ?_
  refine g_putC hC hcn48 fl_X7_43 rfl rfl (Nat.le_of_ble_eq_true rfl) rfl dX7_init_96 (fun F51 hcn52 hx53 => ?_)
  have hx54 : ∀ x, x ≠ t → F47 x ≠ g0 → F51 x = F47 x := fun x q _ => hx53 x q
  refine g_aload_n hC dX7_init_99 rfl ?_
  refine g_iconst (v := 0) hC dX7_init_100 rfl ?_
  refine g_putC hC hcn52 fl_X7_46 rfl rfl (Nat.le_of_ble_eq_true rfl) rfl dX7_init_101 (fun F55 hcn56 hx57 => ?_)
  have hx58 : ∀ x, x ≠ t → F51 x ≠ g0 → F55 x = F51 x := fun x q _ => hx57 x q
  refine g_aload_n hC dX7_init_104 rfl ?_
  refine g_iconst (v := 0) hC dX7_init_105 rfl ?_
  refine g_putC hC hcn56 fl_X7_49 rfl rfl (Nat.le_of_ble_eq_true rfl) rfl dX7_init_106 (fun F59 hcn60 hx61 => ?_)
  have hx62 : ∀ x, x ≠ t → F55 x ≠ g0 → F59 x = F55 x := fun x q _ => hx61 x q
  exact g_vret hC ⟨a1, q2, a8, q9, a15, q16, a22, q23, a29, q30, a36, q37, hcn60⟩ (by first | exact Nat.le_of_ble_eq_true rfl | omega | (simp only [gR]; omega)) (by first | exact Nat.le_of_ble_eq_true rfl | omega | (simp only [gR]; omega)) dX7_init_109
theorem dX10_init_0 : decode cX10_init 0 = .ok (.aload_n 0, 1) := by decide +kernel
theorem dX10_init_1 : decode cX10_init 1 = .ok (.invokespecial 3, 3) := by decide +kernel
theorem dX10_init_4 : decode cX10_init 4 = .ok (.aload_n 0, 1) := by decide +kernel
theorem dX10_init_5 : decode cX10_init 5 = .ok (.new 9, 3) := by decide +kernel
theorem dX10_init_8 : decode cX10_init 8 = .ok (.dup, 1) := by decide +kernel
theorem dX10_init_9 : decode cX10_init 9 = .ok (.ldc 11, 2) := by decide +kernel
theorem dX10_init_11 : decode cX10_init 11 = .ok (.invokespecial 12, 3) := by decide +kernel
theorem dX10_init_14 : decode cX10_init 14 = .ok (.putfield 15, 3) := by decide +kernel
theorem dX10_init_17 : decode cX10_init 17 = .ok (.aload_n 0, 1) := by decide +kernel
theorem dX10_init_18 : decode cX10_init 18 = .ok (.new 9, 3) := by decide +kernel
theorem dX10_init_21 : decode cX10_init 21 = .ok (.dup, 1) := by decide +kernel
theorem dX10_init_22 : decode cX10_init 22 = .ok (.ldc 11, 2) := by decide +kernel
theorem dX10_init_24 : decode cX10_init 24 = .ok (.invokespecial 12, 3) := by decide +kernel
theorem dX10_init_27 : decode cX10_init 27 = .ok (.putfield 21, 3) := by decide +kernel
theorem dX10_init_30 : decode cX10_init 30 = .ok (.aload_n 0, 1) := by decide +kernel
theorem dX10_init_31 : decode cX10_init 31 = .ok (.new 9, 3) := by decide +kernel
theorem dX10_init_34 : decode cX10_init 34 = .ok (.dup, 1) := by decide +kernel
theorem dX10_init_35 : decode cX10_init 35 = .ok (.ldc 11, 2) := by decide +kernel
theorem dX10_init_37 : decode cX10_init 37 = .ok (.invokespecial 12, 3) := by decide +kernel
theorem dX10_init_40 : decode cX10_init 40 = .ok (.putfield 24, 3) := by decide +kernel
theorem dX10_init_43 : decode cX10_init 43 = .ok (.aload_n 0, 1) := by decide +kernel
theorem dX10_init_44 : decode cX10_init 44 = .ok (.new 9, 3) := by decide +kernel
theorem dX10_init_47 : decode cX10_init 47 = .ok (.dup, 1) := by decide +kernel
theorem dX10_init_48 : decode cX10_init 48 = .ok (.ldc 11, 2) := by decide +kernel
theorem dX10_init_50 : decode cX10_init 50 = .ok (.invokespecial 12, 3) := by decide +kernel
theorem dX10_init_53 : decode cX10_init 53 = .ok (.putfield 27, 3) := by decide +kernel
theorem dX10_init_56 : decode cX10_init 56 = .ok (.aload_n 0, 1) := by decide +kernel
theorem dX10_init_57 : decode cX10_init 57 = .ok (.new 9, 3) := by decide +kernel
theorem dX10_init_60 : decode cX10_init 60 = .ok (.dup, 1) := by decide +kernel
theorem dX10_init_61 : decode cX10_init 61 = .ok (.ldc 11, 2) := by decide +kernel
theorem dX10_init_63 : decode cX10_init 63 = .ok (.invokespecial 12, 3) := by decide +kernel
theorem dX10_init_66 : decode cX10_init 66 = .ok (.putfield 30, 3) := by decide +kernel
theorem dX10_init_69 : decode cX10_init 69 = .ok (.aload_n 0, 1) := by decide +kernel
theorem dX10_init_70 : decode cX10_init 70 = .ok (.new 9, 3) := by decide +kernel
theorem dX10_init_73 : decode cX10_init 73 = .ok (.dup, 1) := by decide +kernel
theorem dX10_init_74 : decode cX10_init 74 = .ok (.ldc 11, 2) := by decide +kernel
theorem dX10_init_76 : decode cX10_init 76 = .ok (.invokespecial 12, 3) := by decide +kernel
theorem dX10_init_79 : decode cX10_init 79 = .ok (.putfield 33, 3) := by decide +kernel
theorem dX10_init_82 : decode cX10_init 82 = .ok (.aload_n 0, 1) := by decide +kernel
theorem dX10_init_83 : decode cX10_init 83 = .ok (.new 9, 3) := by decide +kernel
theorem dX10_init_86 : decode cX10_init 86 = .ok (.dup, 1) := by decide +kernel
theorem dX10_init_87 : decode cX10_init 87 = .ok (.ldc 11, 2) := by decide +kernel
theorem dX10_init_89 : decode cX10_init 89 = .ok (.invokespecial 12, 3) := by decide +kernel
theorem dX10_init_92 : decode cX10_init 92 = .ok (.putfield 36, 3) := by decide +kernel
theorem dX10_init_95 : decode cX10_init 95 = .ok (.return_, 1) := by decide +kernel
set_option maxHeartbeats 4000000 in
set_option maxRecDepth 100000 in
theorem k_T (l : Launch) (d : gD) (b : Nat) (F : gM) (t : Nat)  (h : F t = .inr (10, [.null, .null, .null, .null, .null, .null, .null]))  : gMv l d b yX10_init cX10_init 1 3 14 133 F [.ref t] (fun F' => ∃ a0 q1 a2 q3 a4 q5 a6 q7 a8 q9 a10 q11 a12 q13 : Nat, gCn d t 10 F F' [.ref a0, .ref a2, .ref a4, .ref a6, .ref a8, .ref a10, .ref a12] [(a0, q1, 1000000, 0), (a2, q3, 1000000, 0), (a4, q5, 1000000, 0), (a6, q7, 1000000, 0), (a8, q9, 1000000, 0), (a10, q11, 1000000, 0), (a12, q13, 1000000, 0)]) := by
  refine gM_of2 rfl (nL := 1) (Nat.le_of_ble_eq_true rfl) ?_
  intro X hX hC; subst hX
  show gG X d b _ F 0 0 0 [some (.ref t)] []
  have hcn : gCn d t 10 F F [.null, .null, .null, .null, .null, .null, .null] [] := ⟨h, by rw [h]; exact g0_o, gEx.rf, gNw.nil⟩
  refine g_aload_n hC dX10_init_0 rfl ?_
  refine g_objInit hC dX10_init_1 kw_337 rfl ⟨Nat.le_of_ble_eq_true rfl, Nat.le_of_ble_eq_true rfl⟩ (Nat.le_of_ble_eq_true rfl) ?_
  refine g_newInts 1000000 hC hcn rfl rfl (by decide) (by decide) dX10_init_4 dX10_init_5 dX10_init_8 (fun _ _ _ _ kk => g_ldc hC dX10_init_9 kw_339 kk) dX10_init_11 dX10_init_14 nl_X10_9 cl_X10_12 fl_X10_15 (fun _ => ⟨rfl, rfl⟩) (Nat.le_of_ble_eq_true rfl) (fun _ => ⟨_, _, rfl⟩) (by first | exact Nat.le_of_ble_eq_true rfl | omega | (simp only [gR]; omega)) (by first | exact Nat.le_of_ble_eq_true rfl | omega | (simp only [gR]; omega)) (Nat.le_of_ble_eq_true rfl) (Nat.le_of_ble_eq_true rfl) (fun a1 q2 F3 h4 e6 hx7 => ?_)
  have hcn5 : gCn d t 10 F F3 [.ref a1, .null, .null, .null, .null, .null, .null] [(a1, q2, 1000000, 0)] := h4
  refine g_newInts 1000000 hC hcn5 rfl rfl (by decide) (by decide) dX10_init_17 dX10_init_18 dX10_init_21 (fun _ _ _ _ kk => g_ldc hC dX10_init_22 kw_339 kk) dX10_init_24 dX10_init_27 nl_X10_9 cl_X10_12 fl_X10_21 (fun _ => ⟨rfl, rfl⟩) (Nat.le_of_ble_eq_true rfl) (fun _ => ⟨_, _, rfl⟩) (by first | exact Nat.le_of_ble_eq_true rfl | omega | (simp only [gR]; omega)) (by first | exact Nat.le_of_ble_eq_true rfl | omega | (simp only [gR]; omega)) (Nat.le_of_ble_eq_true rfl) (Nat.le_of_ble_eq_true rfl) (fun a8 q9 F10 h11 e13 hx14 => ?_)
  have hcn12 : gCn d t 10 F F10 [.ref a1, .ref a8, .null, .null, .null, .null, .null] [(a1, q2, 1000000, 0), (a8, q9, 1000000, 0)] := h11
  refine g_newInts 1000000 hC hcn12 rfl rfl (by decide) (by decide) dX10_init_30 dX10_init_31 dX10_init_34 (fun _ _ _ _ kk => g_ldc hC dX10_init_35 kw_339 kk) dX10_init_37 dX10_init_40 nl_X10_9 cl_X10_12 fl_X10_24 (fun _ => ⟨rfl, rfl⟩) (Nat.le_of_ble_eq_true rfl) (fun _ => ⟨_, _, rfl⟩) (by first | exact Nat.le_of_ble_eq_true rfl | omega | (simp only [gR]; omega)) (by first | exact Nat.le_of_ble_eq_true rfl | omega | (simp only [gR]; omega)) (Nat.le_of_ble_eq_true rfl) (Nat.le_of_ble_eq_true rfl) (fun a15 q16 F17 h18 e20 hx21 => ?_)
  have hcn19 : gCn d t 10 F F17 [.ref a1, .ref a8, .ref a15, .null, .null, .null, .null] [(a1, q2, 1000000, 0), (a8, q9, 1000000, 0), (a15, q16, 1000000, 0)] := h18
  refine g_newInts 1000000 hC hcn19 rfl rfl (by decide) (by decide) dX10_init_43 dX10_init_44 dX10_init_47 (fun _ _ _ _ kk => g_ldc hC dX10_init_48 kw_339 kk) dX10_init_50 dX10_init_53 nl_X10_9 cl_X10_12 fl_X10_27 (fun _ => ⟨rfl, rfl⟩) (Nat.le_of_ble_eq_true rfl) (fun _ => ⟨_, _, rfl⟩) (by first | exact Nat.le_of_ble_eq_true rfl | omega | (simp only [gR]; omega)) (by first | exact Nat.le_of_ble_eq_true rfl | omega | (simp only [gR]; omega)) (Nat.le_of_ble_eq_true rfl) (Nat.le_of_ble_eq_true rfl) (fun a22 q23 F24 h25 e27 hx28 => ?_)
  have hcn26 : gCn d t 10 F F24 [.ref a1, .ref a8, .ref a15, .ref a22, .null, .null, .null] [(a1, q2, 1000000, 0), (a8, q9, 1000000, 0), (a15, q16, 1000000, 0), (a22, q23, 1000000, 0)] := h25
  refine g_newInts 1000000 hC hcn26 rfl rfl (by decide) (by decide) dX10_init_56 dX10_init_57 dX10_init_60 (fun _ _ _ _ kk => g_ldc hC dX10_init_61 kw_339 kk) dX10_init_63 dX10_init_66 nl_X10_9 cl_X10_12 fl_X10_30 (fun _ => ⟨rfl, rfl⟩) (Nat.le_of_ble_eq_true rfl) (fun _ => ⟨_, _, rfl⟩) (by first | exact Nat.le_of_ble_eq_true rfl | omega | (simp only [gR]; omega)) (by first | exact Nat.le_of_ble_eq_true rfl | omega | (simp only [gR]; omega)) (Nat.le_of_ble_eq_true rfl) (Nat.le_of_ble_eq_true rfl) (fun a29 q30 F31 h32 e34 hx35 => ?_)
  have hcn33 : gCn d t 10 F F31 [.ref a1, .ref a8, .ref a15, .ref a22, .ref a29, .null, .null] [(a1, q2, 1000000, 0), (a8, q9, 1000000, 0), (a15, q16, 1000000, 0), (a22, q23, 1000000, 0), (a29, q30, 1000000, 0)] := h32
  refine g_newInts 1000000 hC hcn33 rfl rfl (by decide) (by decide) dX10_init_69 dX10_init_70 dX10_init_73 (fun _ _ _ _ kk => g_ldc hC dX10_init_74 kw_339 kk) dX10_init_76 dX10_init_79 nl_X10_9 cl_X10_12 fl_X10_33 (fun _ => ⟨rfl, rfl⟩) (Nat.le_of_ble_eq_true rfl) (fun _ => ⟨_, _, rfl⟩) (by first | exact Nat.le_of_ble_eq_true rfl | omega | (simp only [gR]; omega)) (by first | exact Nat.le_of_ble_eq_true rfl | omega | (simp only [gR]; omega)) (Nat.le_of_ble_eq_true rfl) (Nat.le_of_ble_eq_true rfl) (fun a36 q37 F38 h39 e41 hx42 => ?_)
  have hcn40 : gCn d t 10 F F38 [.ref a1, .ref a8, .ref a15, .ref a22, .ref a29, .ref a36, .null] [(a1, q2, 1000000, 0), (a8, q9, 1000000, 0), (a15, q16, 1000000, 0), (a22, q23, 1000000, 0), (a29, q30, 1000000, 0), (a36, q37, 1000000, 0)] := h39
  refine g_newInts 1000000 hC hcn40 rfl rfl (by decide) (by decide) dX10_init_82 dX10_init_83 dX10_init_86 (fun _ _ _ _ kk => g_ldc hC dX10_init_87 kw_339 kk) dX10_init_89 dX10_init_92 nl_X10_9 cl_X10_12 fl_X10_36 (fun _ => ⟨rfl, rfl⟩) (Nat.le_of_ble_eq_true rfl) (fun _ => ⟨_, _, rfl⟩) (by first | exact Nat.le_of_ble_eq_true rfl | omega | (simp only [gR]; omega)) (by first | exact Nat.le_of_ble_eq_true rfl | omega | (simp only [gR]; omega)) (Nat.le_of_ble_eq_true rfl) (Nat.le_of_ble_eq_true rfl) (fun a43 q44 F45 h46 e48 hx49 => ?_)
  have hcn47 : gCn d t 10 F F45 [.ref a1, .ref a8, .ref a15, .ref a22, .ref a29, .ref a36, .ref a43] [(a1, q2, 1000000, 0), (a8, q9, 1000000, 0), (a15, q16, 1000000, 0), (a22, q23, 1000000, 0), (a29, q30, 1000000, 0), (a36, q37, 1000000, 0), (a43, q44, 1000000, 0)] := h46
  exact g_vret hC ⟨a1, q2, a8, q9, a15, q16, a22, q23, a29, q30, a36, q37, a43, q44, hcn47⟩ (by first | exact Nat.le_of_ble_eq_true rfl | omega | (simp only [gR]; omega)) (by first | exact Nat.le_of_ble_eq_true rfl | omega | (simp only [gR]; omega)) dX10_init_95
theorem dX9_init_0 : decode cX9_init 0 = .ok (.aload_n 0, 1) := by decide +kernel
theorem dX9_init_1 : decode cX9_init 1 = .ok (.invokespecial 3, 3) := by decide +kernel
theorem dX9_init_4 : decode cX9_init 4 = .ok (.aload_n 0, 1) := by decide +kernel
theorem dX9_init_5 : decode cX9_init 5 = .ok (.new 9, 3) := by decide +kernel
theorem dX9_init_8 : decode cX9_init 8 = .ok (.dup, 1) := by decide +kernel
theorem dX9_init_9 : decode cX9_init 9 = .ok (.ldc 11, 2) := by decide +kernel
theorem dX9_init_11 : decode cX9_init 11 = .ok (.invokespecial 12, 3) := by decide +kernel
theorem dX9_init_14 : decode cX9_init 14 = .ok (.putfield 15, 3) := by decide +kernel
theorem dX9_init_17 : decode cX9_init 17 = .ok (.aload_n 0, 1) := by decide +kernel
theorem dX9_init_18 : decode cX9_init 18 = .ok (.new 9, 3) := by decide +kernel
theorem dX9_init_21 : decode cX9_init 21 = .ok (.dup, 1) := by decide +kernel
theorem dX9_init_22 : decode cX9_init 22 = .ok (.ldc 11, 2) := by decide +kernel
theorem dX9_init_24 : decode cX9_init 24 = .ok (.invokespecial 12, 3) := by decide +kernel
theorem dX9_init_27 : decode cX9_init 27 = .ok (.putfield 21, 3) := by decide +kernel
theorem dX9_init_30 : decode cX9_init 30 = .ok (.aload_n 0, 1) := by decide +kernel
theorem dX9_init_31 : decode cX9_init 31 = .ok (.new 9, 3) := by decide +kernel
theorem dX9_init_34 : decode cX9_init 34 = .ok (.dup, 1) := by decide +kernel
theorem dX9_init_35 : decode cX9_init 35 = .ok (.ldc 11, 2) := by decide +kernel
theorem dX9_init_37 : decode cX9_init 37 = .ok (.invokespecial 12, 3) := by decide +kernel
theorem dX9_init_40 : decode cX9_init 40 = .ok (.putfield 24, 3) := by decide +kernel
theorem dX9_init_43 : decode cX9_init 43 = .ok (.aload_n 0, 1) := by decide +kernel
theorem dX9_init_44 : decode cX9_init 44 = .ok (.new 9, 3) := by decide +kernel
theorem dX9_init_47 : decode cX9_init 47 = .ok (.dup, 1) := by decide +kernel
theorem dX9_init_48 : decode cX9_init 48 = .ok (.ldc 11, 2) := by decide +kernel
theorem dX9_init_50 : decode cX9_init 50 = .ok (.invokespecial 12, 3) := by decide +kernel
theorem dX9_init_53 : decode cX9_init 53 = .ok (.putfield 27, 3) := by decide +kernel
theorem dX9_init_56 : decode cX9_init 56 = .ok (.aload_n 0, 1) := by decide +kernel
theorem dX9_init_57 : decode cX9_init 57 = .ok (.new 9, 3) := by decide +kernel
theorem dX9_init_60 : decode cX9_init 60 = .ok (.dup, 1) := by decide +kernel
theorem dX9_init_61 : decode cX9_init 61 = .ok (.ldc 11, 2) := by decide +kernel
theorem dX9_init_63 : decode cX9_init 63 = .ok (.invokespecial 12, 3) := by decide +kernel
theorem dX9_init_66 : decode cX9_init 66 = .ok (.putfield 30, 3) := by decide +kernel
theorem dX9_init_69 : decode cX9_init 69 = .ok (.aload_n 0, 1) := by decide +kernel
theorem dX9_init_70 : decode cX9_init 70 = .ok (.new 9, 3) := by decide +kernel
theorem dX9_init_73 : decode cX9_init 73 = .ok (.dup, 1) := by decide +kernel
theorem dX9_init_74 : decode cX9_init 74 = .ok (.ldc 11, 2) := by decide +kernel
theorem dX9_init_76 : decode cX9_init 76 = .ok (.invokespecial 12, 3) := by decide +kernel
theorem dX9_init_79 : decode cX9_init 79 = .ok (.putfield 33, 3) := by decide +kernel
theorem dX9_init_82 : decode cX9_init 82 = .ok (.aload_n 0, 1) := by decide +kernel
theorem dX9_init_83 : decode cX9_init 83 = .ok (.iconst 0, 1) := by decide +kernel
theorem dX9_init_84 : decode cX9_init 84 = .ok (.putfield 36, 3) := by decide +kernel
theorem dX9_init_87 : decode cX9_init 87 = .ok (.aload_n 0, 1) := by decide +kernel
theorem dX9_init_88 : decode cX9_init 88 = .ok (.aload_n 1, 1) := by decide +kernel
theorem dX9_init_89 : decode cX9_init 89 = .ok (.putfield 40, 3) := by decide +kernel
theorem dX9_init_92 : decode cX9_init 92 = .ok (.return_, 1) := by decide +kernel
set_option maxHeartbeats 4000000 in
set_option maxRecDepth 100000 in
theorem k_Sco (l : Launch) (d : gD) (b : Nat) (F : gM) (t : Nat) (p0 : Nat) (h : F t = .inr (9, [.null, .null, .null, .null, .null, .null, .null, .int 0]))  : gMv l d b yX9_init cX9_init 2 3 12 114 F [.ref t, .ref p0] (fun F' => ∃ a0 q1 a2 q3 a4 q5 a6 q7 a8 q9 a10 q11 : Nat, gCn d t 9 F F' [.ref p0, .ref a0, .ref a2, .ref a4, .ref a6, .ref a8, .ref a10, .int 0] [(a0, q1, 1000000, 0), (a2, q3, 1000000, 0), (a4, q5, 1000000, 0), (a6, q7, 1000000, 0), (a8, q9, 1000000, 0), (a10, q11, 1000000, 0)]) := by
  refine gM_of2 rfl (nL := 2) (Nat.le_of_ble_eq_true rfl) ?_
  intro X hX hC; subst hX
  show gG X d b _ F 0 0 0 [some (.ref t), some (.ref p0)] []
  have hcn : gCn d t 9 F F [.null, .null, .null, .null, .null, .null, .null, .int 0] [] := ⟨h, by rw [h]; exact g0_o, gEx.rf, gNw.nil⟩
  refine g_aload_n hC dX9_init_0 rfl ?_
  refine g_objInit hC dX9_init_1 kw_583 rfl ⟨Nat.le_of_ble_eq_true rfl, Nat.le_of_ble_eq_true rfl⟩ (Nat.le_of_ble_eq_true rfl) ?_
  refine g_newInts 1000000 hC hcn rfl rfl (by decide) (by decide) dX9_init_4 dX9_init_5 dX9_init_8 (fun _ _ _ _ kk => g_ldc hC dX9_init_9 kw_585 kk) dX9_init_11 dX9_init_14 nl_X9_9 cl_X9_12 fl_X9_15 (fun _ => ⟨rfl, rfl⟩) (Nat.le_of_ble_eq_true rfl) (fun _ => ⟨_, _, rfl⟩) (by first | exact Nat.le_of_ble_eq_true rfl | omega | (simp only [gR]; omega)) (by first | exact Nat.le_of_ble_eq_true rfl | omega | (simp only [gR]; omega)) (Nat.le_of_ble_eq_true rfl) (Nat.le_of_ble_eq_true rfl) (fun a1 q2 F3 h4 e6 hx7 => ?_)
  have hcn5 : gCn d t 9 F F3 [.null, .ref a1, .null, .null, .null, .null, .null, .int 0] [(a1, q2, 1000000, 0)] := h4
  refine g_newInts 1000000 hC hcn5 rfl rfl (by decide) (by decide) dX9_init_17 dX9_init_18 dX9_init_21 (fun _ _ _ _ kk => g_ldc hC dX9_init_22 kw_585 kk) dX9_init_24 dX9_init_27 nl_X9_9 cl_X9_12 fl_X9_21 (fun _ => ⟨rfl, rfl⟩) (Nat.le_of_ble_eq_true rfl) (fun _ => ⟨_, _, rfl⟩) (by first | exact Nat.le_of_ble_eq_true rfl | omega | (simp only [gR]; omega)) (by first | exact Nat.le_of_ble_eq_true rfl | omega | (simp only [gR]; omega)) (Nat.le_of_ble_eq_true rfl) (Nat.le_of_ble_eq_true rfl) (fun a8 q9 F10 h11 e13 hx14 => ?_)
  have hcn12 : gCn d t 9 F F10 [.null, .ref a1, .ref a8, .null, .null, .null, .null, .int 0] [(a1, q2, 1000000, 0), (a8, q9, 1000000, 0)] := h11
  refine g_newInts 1000000 hC hcn12 rfl rfl (by decide) (by decide) dX9_init_30 dX9_init_31 dX9_init_34 (fun _ _ _ _ kk => g_ldc hC dX9_init_35 kw_585 kk) dX9_init_37 dX9_init_40 nl_X9_9 cl_X9_12 fl_X9_24 (fun _ => ⟨rfl, rfl⟩) (Nat.le_of_ble_eq_true rfl) (fun _ => ⟨_, _, rfl⟩) (by first | exact Nat.le_of_ble_eq_true rfl | omega | (simp only [gR]; omega)) (by first | exact Nat.le_of_ble_eq_true rfl | omega | (simp only [gR]; omega)) (Nat.le_of_ble_eq_true rfl) (Nat.le_of_ble_eq_true rfl) (fun a15 q16 F17 h18 e20 hx21 => ?_)
  have hcn19 : gCn d t 9 F F17 [.null, .ref a1, .ref a8, .ref a15, .null, .null, .null, .int 0] [(a1, q2, 1000000, 0), (a8, q9, 1000000, 0), (a15, q16, 1000000, 0)] := h18
  refine g_newInts 1000000 hC hcn19 rfl rfl (by decide) (by decide) dX9_init_43 dX9_init_44 dX9_init_47 (fun _ _ _ _ kk => g_ldc hC dX9_init_48 kw_585 kk) dX9_init_50 dX9_init_53 nl_X9_9 cl_X9_12 fl_X9_27 (fun _ => ⟨rfl, rfl⟩) (Nat.le_of_ble_eq_true rfl) (fun _ => ⟨_, _, rfl⟩) (by first | exact Nat.le_of_ble_eq_true rfl | omega | (simp only [gR]; omega)) (by first | exact Nat.le_of_ble_eq_true rfl | omega | (simp only [gR]; omega)) (Nat.le_of_ble_eq_true rfl) (Nat.le_of_ble_eq_true rfl) (fun a22 q23 F24 h25 e27 hx28 => ?_)
  have hcn26 : gCn d t 9 F F24 [.null, .ref a1, .ref a8, .ref a15, .ref a22, .null, .null, .int 0] [(a1, q2, 1000000, 0), (a8, q9, 1000000, 0), (a15, q16, 1000000, 0), (a22, q23, 1000000, 0)] := h25
  refine g_newInts 1000000 hC hcn26 rfl rfl (by decide) (by decide) dX9_init_56 dX9_init_57 dX9_init_60 (fun _ _ _ _ kk => g_ldc hC dX9_init_61 kw_585 kk) dX9_init_63 dX9_init_66 nl_X9_9 cl_X9_12 fl_X9_30 (fun _ => ⟨rfl, rfl⟩) (Nat.le_of_ble_eq_true rfl) (fun _ => ⟨_, _, rfl⟩) (by first | exact Nat.le_of_ble_eq_true rfl | omega | (simp only [gR]; omega)) (by first | exact Nat.le_of_ble_eq_true rfl | omega | (simp only [gR]; omega)) (Nat.le_of_ble_eq_true rfl) (Nat.le_of_ble_eq_true rfl) (fun a29 q30 F31 h32 e34 hx35 => ?_)
  have hcn33 : gCn d t 9 F F31 [.null, .ref a1, .ref a8, .ref a15, .ref a22, .ref a29, .null, .int 0] [(a1, q2, 1000000, 0), (a8, q9, 1000000, 0), (a15, q16, 1000000, 0), (a22, q23, 1000000, 0), (a29, q30, 1000000, 0)] := h32
  refine g_newInts 1000000 hC hcn33 rfl rfl (by decide) (by decide) dX9_init_69 dX9_init_70 dX9_init_73 (fun _ _ _ _ kk => g_ldc hC dX9_init_74 kw_585 kk) dX9_init_76 dX9_init_79 nl_X9_9 cl_X9_12 fl_X9_33 (fun _ => ⟨rfl, rfl⟩) (Nat.le_of_ble_eq_true rfl) (fun _ => ⟨_, _, rfl⟩) (by first | exact Nat.le_of_ble_eq_true rfl | omega | (simp only [gR]; omega)) (by first | exact Nat.le_of_ble_eq_true rfl | omega | (simp only [gR]; omega)) (Nat.le_of_ble_eq_true rfl) (Nat.le_of_ble_eq_true rfl) (fun a36 q37 F38 h39 e41 hx42 => ?_)
  have hcn40 : gCn d t 9 F F38 [.null, .ref a1, .ref a8, .ref a15, .ref a22, .ref a29, .ref a36, .int 0] [(a1, q2, 1000000, 0), (a8, q9, 1000000, 0), (a15, q16, 1000000, 0), (a22, q23, 1000000, 0), (a29, q30, 1000000, 0), (a36, q37, 1000000, 0)] := h39
  refine g_aload_n hC dX9_init_82 rfl ?_
  refine g_iconst (v := 0) hC dX9_init_83 rfl ?_
  refine g_putC hC hcn40 fl_X9_36 rfl rfl (Nat.le_of_ble_eq_true rfl) rfl dX9_init_84 (fun F43 hcn44 hx45 => ?_)
  have hx46 : ∀ x, x ≠ t → F38 x ≠ g0 → F43 x = F38 x := fun x q _ => hx45 x q
  refine g_aload_n hC dX9_init_87 rfl ?_
  refine g_aload_n hC dX9_init_88 rfl ?_
  refine g_putC hC hcn44 fl_X9_40 rfl rfl (Nat.le_of_ble_eq_true rfl) rfl dX9_init_89 (fun F47 hcn48 hx49 => ?_)
  have hx50 : ∀ x, x ≠ t → F43 x ≠ g0 → F47 x = F43 x := fun x q _ => hx49 x q
  exact g_vret hC ⟨a1, q2, a8, q9, a15, q16, a22, q23, a29, q30, a36, q37, hcn48⟩ (by first | exact Nat.le_of_ble_eq_true rfl | omega | (simp only [gR]; omega)) (by first | exact Nat.le_of_ble_eq_true rfl | omega | (simp only [gR]; omega)) dX9_init_92
theorem dX2_init_0 : decode cX2_init 0 = .ok (.aload_n 0, 1) := by decide +kernel
theorem dX2_init_1 : decode cX2_init 1 = .ok (.invokespecial 3, 3) := by decide +kernel
theorem dX2_init_4 : decode cX2_init 4 = .ok (.aload_n 0, 1) := by decide +kernel
theorem dX2_init_5 : decode cX2_init 5 = .ok (.new 9, 3) := by decide +kernel
theorem dX2_init_8 : decode cX2_init 8 = .ok (.dup, 1) := by decide +kernel
theorem dX2_init_9 : decode cX2_init 9 = .ok (.ldc 11, 2) := by decide +kernel
theorem dX2_init_11 : decode cX2_init 11 = .ok (.invokespecial 12, 3) := by decide +kernel
theorem dX2_init_14 : decode cX2_init 14 = .ok (.putfield 15, 3) := by decide +kernel
theorem dX2_init_17 : decode cX2_init 17 = .ok (.aload_n 0, 1) := by decide +kernel
theorem dX2_init_18 : decode cX2_init 18 = .ok (.iconst 0, 1) := by decide +kernel
theorem dX2_init_19 : decode cX2_init 19 = .ok (.putfield 21, 3) := by decide +kernel
theorem dX2_init_22 : decode cX2_init 22 = .ok (.aload_n 0, 1) := by decide +kernel
theorem dX2_init_23 : decode cX2_init 23 = .ok (.iconst 0, 1) := by decide +kernel
theorem dX2_init_24 : decode cX2_init 24 = .ok (.putfield 25, 3) := by decide +kernel
theorem dX2_init_27 : decode cX2_init 27 = .ok (.aload_n 0, 1) := by decide +kernel
theorem dX2_init_28 : decode cX2_init 28 = .ok (.iconst 0, 1) := by decide +kernel
theorem dX2_init_29 : decode cX2_init 29 = .ok (.putfield 29, 3) := by decide +kernel
theorem dX2_init_32 : decode cX2_init 32 = .ok (.aload_n 0, 1) := by decide +kernel
theorem dX2_init_33 : decode cX2_init 33 = .ok (.aload_n 1, 1) := by decide +kernel
theorem dX2_init_34 : decode cX2_init 34 = .ok (.putfield 32, 3) := by decide +kernel
theorem dX2_init_37 : decode cX2_init 37 = .ok (.aload_n 0, 1) := by decide +kernel
theorem dX2_init_38 : decode cX2_init 38 = .ok (.aload_n 2, 1) := by decide +kernel
theorem dX2_init_39 : decode cX2_init 39 = .ok (.putfield 36, 3) := by decide +kernel
theorem dX2_init_42 : decode cX2_init 42 = .ok (.aload_n 0, 1) := by decide +kernel
theorem dX2_init_43 : decode cX2_init 43 = .ok (.aload_n 3, 1) := by decide +kernel
theorem dX2_init_44 : decode cX2_init 44 = .ok (.putfield 40, 3) := by decide +kernel
theorem dX2_init_47 : decode cX2_init 47 = .ok (.return_, 1) := by decide +kernel
set_option maxHeartbeats 4000000 in
set_option maxRecDepth 100000 in
theorem k_Con (l : Launch) (d : gD) (b : Nat) (F : gM) (t : Nat) (p0 p1 p2 : Nat) (h : F t = .inr (2, [.null, .null, .null, .null, .int 0, .int 0, .int 0]))  : gMv l d b yX2_init cX2_init 4 3 2 19 F [.ref t, .ref p0, .ref p1, .ref p2] (fun F' => ∃ a0 q1 : Nat, gCn d t 2 F F' [.ref p0, .ref p1, .ref p2, .ref a0, .int 0, .int 0, .int 0] [(a0, q1, 1000000, 0)]) := by
  refine gM_of2 rfl (nL := 4) (Nat.le_of_ble_eq_true rfl) ?_
  intro X hX hC; subst hX
  show gG X d b _ F 0 0 0 [some (.ref t), some (.ref p0), some (.ref p1), some (.ref p2)] []
  have hcn : gCn d t 2 F F [.null, .null, .null, .null, .int 0, .int 0, .int 0] [] := ⟨h, by rw [h]; exact g0_o, gEx.rf, gNw.nil⟩
  refine g_aload_n hC dX2_init_0 rfl ?_
  refine g_objInit hC dX2_init_1 kw_617 rfl ⟨Nat.le_of_ble_eq_true rfl, Nat.le_of_ble_eq_true rfl⟩ (Nat.le_of_ble_eq_true rfl) ?_
  refine g_newInts 1000000 hC hcn rfl rfl (by decide) (by decide) dX2_init_4 dX2_init_5 dX2_init_8 (fun _ _ _ _ kk => g_ldc hC dX2_init_9 kw_619 kk) dX2_init_11 dX2_init_14 nl_X2_9 cl_X2_12 fl_X2_15 (fun _ => ⟨rfl, rfl⟩) (Nat.le_of_ble_eq_true rfl) (fun _ => ⟨_, _, rfl⟩) (by first | exact Nat.le_of_ble_eq_true rfl | omega | (simp only [gR]; omega)) (by first | exact Nat.le_of_ble_eq_true rfl | omega | (simp only [gR]; omega)) (Nat.le_of_ble_eq_true rfl) (Nat.le_of_ble_eq_true rfl) (fun a1 q2 F3 h4 e6 hx7 => ?_)
  have hcn5 : gCn d t 2 F F3 [.null, .null, .null, .ref a1, .int 0, .int 0, .int 0] [(a1, q2, 1000000, 0)] := h4
  refine g_aload_n hC dX2_init_17 rfl ?_
  refine g_iconst (v := 0) hC dX2_init_18 rfl ?_
  refine g_putC hC hcn5 fl_X2_21 rfl rfl (Nat.le_of_ble_eq_true rfl) rfl dX2_init_19 (fun F8 hcn9 hx10 => ?_)
  have hx11 : ∀ x, x ≠ t → F3 x ≠ g0 → F8 x = F3 x := fun x q _ => hx10 x q
  refine g_aload_n hC dX2_init_22 rfl ?_
  refine g_iconst (v := 0) hC dX2_init_23 rfl ?_
  refine g_putC hC hcn9 fl_X2_25 rfl rfl (Nat.le_of_ble_eq_true rfl) rfl dX2_init_24 (fun F12 hcn13 hx14 => ?_)
  have hx15 : ∀ x, x ≠ t → F8 x ≠ g0 → F12 x = F8 x := fun x q _ => hx14 x q
  refine g_aload_n hC dX2_init_27 rfl ?_
  refine g_iconst (v := 0) hC dX2_init_28 rfl ?_
  refine g_putC hC hcn13 fl_X2_29 rfl rfl (Nat.le_of_ble_eq_true rfl) rfl dX2_init_29 (fun F16 hcn17 hx18 => ?_)
  have hx19 : ∀ x, x ≠ t → F12 x ≠ g0 → F16 x = F12 x := fun x q _ => hx18 x q
  refine g_aload_n hC dX2_init_32 rfl ?_
  refine g_aload_n hC dX2_init_33 rfl ?_
  refine g_putC hC hcn17 fl_X2_32 rfl rfl (Nat.le_of_ble_eq_true rfl) rfl dX2_init_34 (fun F20 hcn21 hx22 => ?_)
  have hx23 : ∀ x, x ≠ t → F16 x ≠ g0 → F20 x = F16 x := fun x q _ => hx22 x q
  refine g_aload_n hC dX2_init_37 rfl ?_
  refine g_aload_n hC dX2_init_38 rfl ?_
  refine g_putC hC hcn21 fl_X2_36 rfl rfl (Nat.le_of_ble_eq_true rfl) rfl dX2_init_39 (fun F24 hcn25 hx26 => ?_)
  have hx27 : ∀ x, x ≠ t → F20 x ≠ g0 → F24 x = F20 x := fun x q _ => hx26 x q
  refine g_aload_n hC dX2_init_42 rfl ?_
  refine g_aload_n hC dX2_init_43 rfl ?_
  refine g_putC hC hcn25 fl_X2_40 rfl rfl (Nat.le_of_ble_eq_true rfl) rfl dX2_init_44 (fun F28 hcn29 hx30 => ?_)
  have hx31 : ∀ x, x ≠ t → F24 x ≠ g0 → F28 x = F24 x := fun x q _ => hx30 x q
  exact g_vret hC ⟨a1, q2, hcn29⟩ (by first | exact Nat.le_of_ble_eq_true rfl | omega | (simp only [gR]; omega)) (by first | exact Nat.le_of_ble_eq_true rfl | omega | (simp only [gR]; omega)) dX2_init_47
theorem dX3_init_0 : decode cX3_init 0 = .ok (.aload_n 0, 1) := by decide +kernel
theorem dX3_init_1 : decode cX3_init 1 = .ok (.invokespecial 3, 3) := by decide +kernel
theorem dX3_init_4 : decode cX3_init 4 = .ok (.aload_n 0, 1) := by decide +kernel
theorem dX3_init_5 : decode cX3_init 5 = .ok (.new 9, 3) := by decide +kernel
theorem dX3_init_8 : decode cX3_init 8 = .ok (.dup, 1) := by decide +kernel
theorem dX3_init_9 : decode cX3_init 9 = .ok (.bipush 100, 2) := by decide +kernel
theorem dX3_init_11 : decode cX3_init 11 = .ok (.invokespecial 11, 3) := by decide +kernel
theorem dX3_init_14 : decode cX3_init 14 = .ok (.putfield 14, 3) := by decide +kernel
theorem dX3_init_17 : decode cX3_init 17 = .ok (.aload_n 0, 1) := by decide +kernel
theorem dX3_init_18 : decode cX3_init 18 = .ok (.new 9, 3) := by decide +kernel
theorem dX3_init_21 : decode cX3_init 21 = .ok (.dup, 1) := by decide +kernel
theorem dX3_init_22 : decode cX3_init 22 = .ok (.bipush 100, 2) := by decide +kernel
theorem dX3_init_24 : decode cX3_init 24 = .ok (.invokespecial 11, 3) := by decide +kernel
theorem dX3_init_27 : decode cX3_init 27 = .ok (.putfield 20, 3) := by decide +kernel
theorem dX3_init_30 : decode cX3_init 30 = .ok (.return_, 1) := by decide +kernel
set_option maxHeartbeats 4000000 in
set_option maxRecDepth 100000 in
theorem k_H (l : Launch) (d : gD) (b : Nat) (F : gM) (t : Nat)  (h : F t = .inr (3, [.null, .null]))  : gMv l d b yX3_init cX3_init 1 3 4 38 F [.ref t] (fun F' => ∃ a0 q1 a2 q3 : Nat, gCn d t 3 F F' [.ref a0, .ref a2] [(a0, q1, 100, 0), (a2, q3, 100, 0)]) := by
  refine gM_of2 rfl (nL := 1) (Nat.le_of_ble_eq_true rfl) ?_
  intro X hX hC; subst hX
  show gG X d b _ F 0 0 0 [some (.ref t)] []
  have hcn : gCn d t 3 F F [.null, .null] [] := ⟨h, by rw [h]; exact g0_o, gEx.rf, gNw.nil⟩
  refine g_aload_n hC dX3_init_0 rfl ?_
  refine g_objInit hC dX3_init_1 kw_737 rfl ⟨Nat.le_of_ble_eq_true rfl, Nat.le_of_ble_eq_true rfl⟩ (Nat.le_of_ble_eq_true rfl) ?_
  refine g_newInts 100 hC hcn rfl rfl (by decide) (by decide) dX3_init_4 dX3_init_5 dX3_init_8 (fun _ _ _ _ kk => g_bipush (v := nI 100) hC dX3_init_9 (by decide) kk) dX3_init_11 dX3_init_14 nl_X3_9 cl_X3_11 fl_X3_14 (fun _ => ⟨rfl, rfl⟩) (Nat.le_of_ble_eq_true rfl) (fun _ => ⟨_, _, rfl⟩) (by first | exact Nat.le_of_ble_eq_true rfl | omega | (simp only [gR]; omega)) (by first | exact Nat.le_of_ble_eq_true rfl | omega | (simp only [gR]; omega)) (Nat.le_of_ble_eq_true rfl) (Nat.le_of_ble_eq_true rfl) (fun a1 q2 F3 h4 e6 hx7 => ?_)
  have hcn5 : gCn d t 3 F F3 [.ref a1, .null] [(a1, q2, 100, 0)] := h4
  refine g_newInts 100 hC hcn5 rfl rfl (by decide) (by decide) dX3_init_17 dX3_init_18 dX3_init_21 (fun _ _ _ _ kk => g_bipush (v := nI 100) hC dX3_init_22 (by decide) kk) dX3_init_24 dX3_init_27 nl_X3_9 cl_X3_11 fl_X3_20 (fun _ => ⟨rfl, rfl⟩) (Nat.le_of_ble_eq_true rfl) (fun _ => ⟨_, _, rfl⟩) (by first | exact Nat.le_of_ble_eq_true rfl | omega | (simp only [gR]; omega)) (by first | exact Nat.le_of_ble_eq_true rfl | omega | (simp only [gR]; omega)) (Nat.le_of_ble_eq_true rfl) (Nat.le_of_ble_eq_true rfl) (fun a8 q9 F10 h11 e13 hx14 => ?_)
  have hcn12 : gCn d t 3 F F10 [.ref a1, .ref a8] [(a1, q2, 100, 0), (a8, q9, 100, 0)] := h11
  exact g_vret hC ⟨a1, q2, a8, q9, hcn12⟩ (by first | exact Nat.le_of_ble_eq_true rfl | omega | (simp only [gR]; omega)) (by first | exact Nat.le_of_ble_eq_true rfl | omega | (simp only [gR]; omega)) dX3_init_30
theorem dX1_init_0 : decode cX1_init 0 = .ok (.aload_n 0, 1) := by decide +kernel
theorem dX1_init_1 : decode cX1_init 1 = .ok (.invokespecial 3, 3) := by decide +kernel
theorem dX1_init_4 : decode cX1_init 4 = .ok (.aload_n 0, 1) := by decide +kernel
theorem dX1_init_5 : decode cX1_init 5 = .ok (.new 9, 3) := by decide +kernel
theorem dX1_init_8 : decode cX1_init 8 = .ok (.dup, 1) := by decide +kernel
theorem dX1_init_9 : decode cX1_init 9 = .ok (.ldc 11, 2) := by decide +kernel
theorem dX1_init_11 : decode cX1_init 11 = .ok (.invokespecial 12, 3) := by decide +kernel
theorem dX1_init_14 : decode cX1_init 14 = .ok (.putfield 15, 3) := by decide +kernel
theorem dX1_init_17 : decode cX1_init 17 = .ok (.aload_n 0, 1) := by decide +kernel
theorem dX1_init_18 : decode cX1_init 18 = .ok (.new 9, 3) := by decide +kernel
theorem dX1_init_21 : decode cX1_init 21 = .ok (.dup, 1) := by decide +kernel
theorem dX1_init_22 : decode cX1_init 22 = .ok (.ldc 11, 2) := by decide +kernel
theorem dX1_init_24 : decode cX1_init 24 = .ok (.invokespecial 12, 3) := by decide +kernel
theorem dX1_init_27 : decode cX1_init 27 = .ok (.putfield 21, 3) := by decide +kernel
theorem dX1_init_30 : decode cX1_init 30 = .ok (.aload_n 0, 1) := by decide +kernel
theorem dX1_init_31 : decode cX1_init 31 = .ok (.new 9, 3) := by decide +kernel
theorem dX1_init_34 : decode cX1_init 34 = .ok (.dup, 1) := by decide +kernel
theorem dX1_init_35 : decode cX1_init 35 = .ok (.ldc 11, 2) := by decide +kernel
theorem dX1_init_37 : decode cX1_init 37 = .ok (.invokespecial 12, 3) := by decide +kernel
theorem dX1_init_40 : decode cX1_init 40 = .ok (.putfield 24, 3) := by decide +kernel
theorem dX1_init_43 : decode cX1_init 43 = .ok (.aload_n 0, 1) := by decide +kernel
theorem dX1_init_44 : decode cX1_init 44 = .ok (.iconst (-1), 1) := by decide +kernel
theorem dX1_init_45 : decode cX1_init 45 = .ok (.putfield 27, 3) := by decide +kernel
theorem dX1_init_48 : decode cX1_init 48 = .ok (.aload_n 0, 1) := by decide +kernel
theorem dX1_init_49 : decode cX1_init 49 = .ok (.iconst (-1), 1) := by decide +kernel
theorem dX1_init_50 : decode cX1_init 50 = .ok (.putfield 31, 3) := by decide +kernel
theorem dX1_init_53 : decode cX1_init 53 = .ok (.aload_n 0, 1) := by decide +kernel
theorem dX1_init_54 : decode cX1_init 54 = .ok (.iconst (-1), 1) := by decide +kernel
theorem dX1_init_55 : decode cX1_init 55 = .ok (.putfield 34, 3) := by decide +kernel
theorem dX1_init_58 : decode cX1_init 58 = .ok (.aload_n 0, 1) := by decide +kernel
theorem dX1_init_59 : decode cX1_init 59 = .ok (.iconst (-1), 1) := by decide +kernel
theorem dX1_init_60 : decode cX1_init 60 = .ok (.putfield 37, 3) := by decide +kernel
theorem dX1_init_63 : decode cX1_init 63 = .ok (.aload_n 0, 1) := by decide +kernel
theorem dX1_init_64 : decode cX1_init 64 = .ok (.iconst 0, 1) := by decide +kernel
theorem dX1_init_65 : decode cX1_init 65 = .ok (.putfield 40, 3) := by decide +kernel
theorem dX1_init_68 : decode cX1_init 68 = .ok (.aload_n 0, 1) := by decide +kernel
theorem dX1_init_69 : decode cX1_init 69 = .ok (.iconst 0, 1) := by decide +kernel
theorem dX1_init_70 : decode cX1_init 70 = .ok (.putfield 43, 3) := by decide +kernel
theorem dX1_init_73 : decode cX1_init 73 = .ok (.aload_n 0, 1) := by decide +kernel
theorem dX1_init_74 : decode cX1_init 74 = .ok (.iconst 0, 1) := by decide +kernel
theorem dX1_init_75 : decode cX1_init 75 = .ok (.putfield 46, 3) := by decide +kernel
theorem dX1_init_78 : decode cX1_init 78 = .ok (.aload_n 0, 1) := by decide +kernel
theorem dX1_init_79 : decode cX1_init 79 = .ok (.iconst 0, 1) := by decide +kernel
theorem dX1_init_80 : decode cX1_init 80 = .ok (.putfield 49, 3) := by decide +kernel
theorem dX1_init_83 : decode cX1_init 83 = .ok (.aload_n 0, 1) := by decide +kernel
theorem dX1_init_84 : decode cX1_init 84 = .ok (.iconst (-1), 1) := by decide +kernel
theorem dX1_init_85 : decode cX1_init 85 = .ok (.putfield 52, 3) := by decide +kernel
theorem dX1_init_88 : decode cX1_init 88 = .ok (.aload_n 0, 1) := by decide +kernel
theorem dX1_init_89 : decode cX1_init 89 = .ok (.iconst 0, 1) := by decide +kernel
theorem dX1_init_90 : decode cX1_init 90 = .ok (.putfield 55, 3) := by decide +kernel
theorem dX1_init_93 : decode cX1_init 93 = .ok (.aload_n 0, 1) := by decide +kernel
theorem dX1_init_94 : decode cX1_init 94 = .ok (.iconst 0, 1) := by decide +kernel
theorem dX1_init_95 : decode cX1_init 95 = .ok (.putfield 58, 3) := by decide +kernel
theorem dX1_init_98 : decode cX1_init 98 = .ok (.aload_n 0, 1) := by decide +kernel
theorem dX1_init_99 : decode cX1_init 99 = .ok (.iconst 0, 1) := by decide +kernel
theorem dX1_init_100 : decode cX1_init 100 = .ok (.putfield 61, 3) := by decide +kernel
theorem dX1_init_103 : decode cX1_init 103 = .ok (.aload_n 0, 1) := by decide +kernel
theorem dX1_init_104 : decode cX1_init 104 = .ok (.aload_n 1, 1) := by decide +kernel
theorem dX1_init_105 : decode cX1_init 105 = .ok (.putfield 65, 3) := by decide +kernel
theorem dX1_init_108 : decode cX1_init 108 = .ok (.aload_n 0, 1) := by decide +kernel
theorem dX1_init_109 : decode cX1_init 109 = .ok (.aload_n 2, 1) := by decide +kernel
theorem dX1_init_110 : decode cX1_init 110 = .ok (.putfield 69, 3) := by decide +kernel
theorem dX1_init_113 : decode cX1_init 113 = .ok (.aload_n 0, 1) := by decide +kernel
theorem dX1_init_114 : decode cX1_init 114 = .ok (.new 73, 3) := by decide +kernel
theorem dX1_init_117 : decode cX1_init 117 = .ok (.dup, 1) := by decide +kernel
theorem dX1_init_118 : decode cX1_init 118 = .ok (.aload_n 2, 1) := by decide +kernel
theorem dX1_init_119 : decode cX1_init 119 = .ok (.invokespecial 75, 3) := by decide +kernel
theorem dX1_init_122 : decode cX1_init 122 = .ok (.putfield 78, 3) := by decide +kernel
theorem dX1_init_125 : decode cX1_init 125 = .ok (.aload_n 0, 1) := by decide +kernel
theorem dX1_init_126 : decode cX1_init 126 = .ok (.new 82, 3) := by decide +kernel
theorem dX1_init_129 : decode cX1_init 129 = .ok (.dup, 1) := by decide +kernel
theorem dX1_init_130 : decode cX1_init 130 = .ok (.aload_n 1, 1) := by decide +kernel
theorem dX1_init_131 : decode cX1_init 131 = .ok (.aload_n 2, 1) := by decide +kernel
theorem dX1_init_132 : decode cX1_init 132 = .ok (.aload_n 0, 1) := by decide +kernel
theorem dX1_init_133 : decode cX1_init 133 = .ok (.getfield 78, 3) := by decide +kernel
theorem dX1_init_136 : decode cX1_init 136 = .ok (.invokespecial 84, 3) := by decide +kernel
theorem dX1_init_139 : decode cX1_init 139 = .ok (.putfield 87, 3) := by decide +kernel
theorem dX1_init_142 : decode cX1_init 142 = .ok (.return_, 1) := by decide +kernel
set_option maxHeartbeats 4000000 in
set_option maxRecDepth 100000 in
theorem k_Cod (l : Launch) (d : gD) (b : Nat) (F : gM) (t : Nat) (p0 p1 : Nat) (h : F t = .inr (1, [.null, .null, .null, .null, .null, .null, .null, .int 0, .int 0, .int 0, .int 0, .int 0, .int 0, .int 0, .int 0, .int 0, .int 0, .int 0, .int 0]))  : gMv l d b yX1_init cX1_init 3 5 22 205 F [.ref t, .ref p0, .ref p1] (fun F' => ∃ a0 q1 a2 q3 a4 q5 a6 q7 a8 q9 a10 q11 a12 q13 a14 q15 a16 q17 a18 q19 o20 o21 : Nat, gCn d t 1 F F' [.ref p0, .ref p1, .ref o20, .ref o21, .ref a0, .ref a2, .ref a4, .int (-1), .int (-1), .int (-1), .int (-1), .int 0, .int 0, .int 0, .int 0, .int (-1), .int 0, .int 0, .int 0] [(a0, q1, 1000000, 0), (a2, q3, 1000000, 0), (a4, q5, 1000000, 0), (a6, q7, 1000000, 0), (a8, q9, 1000000, 0), (a10, q11, 1000000, 0), (a12, q13, 1000000, 0), (a14, q15, 1000000, 0), (a16, q17, 1000000, 0), (a18, q19, 1000000, 0)] ∧ F' o20 = .inr (9, [.ref p1, .ref a6, .ref a8, .ref a10, .ref a12, .ref a14, .ref a16, .int 0]) ∧ F' o21 = .inr (2, [.ref p0, .ref p1, .ref o20, .ref a18, .int 0, .int 0, .int 0])) := by
  refine gM_of2 rfl (nL := 3) (Nat.le_of_ble_eq_true rfl) ?_
  intro X hX hC; subst hX
  show gG X d b _ F 0 0 0 [some (.ref t), some (.ref p0), some (.ref p1)] []
  have hcn : gCn d t 1 F F [.null, .null, .null, .null, .null, .null, .null, .int 0, .int 0, .int 0, .int 0, .int 0, .int 0, .int 0, .int 0, .int 0, .int 0, .int 0, .int 0] [] := ⟨h, by rw [h]; exact g0_o, gEx.rf, gNw.nil⟩
  refine g_aload_n hC dX1_init_0 rfl ?_
  refine g_objInit hC dX1_init_1 kw_574 rfl ⟨Nat.le_of_ble_eq_true rfl, Nat.le_of_ble_eq_true rfl⟩ (Nat.le_of_ble_eq_true rfl) ?_
  refine g_newInts 1000000 hC hcn rfl rfl (by decide) (by decide) dX1_init_4 dX1_init_5 dX1_init_8 (fun _ _ _ _ kk => g_ldc hC dX1_init_9 kw_576 kk) dX1_init_11 dX1_init_14 nl_X1_9 cl_X1_12 fl_X1_15 (fun _ => ⟨rfl, rfl⟩) (Nat.le_of_ble_eq_true rfl) (fun _ => ⟨_, _, rfl⟩) (by first | exact Nat.le_of_ble_eq_true rfl | omega | (simp only [gR]; omega)) (by first | exact Nat.le_of_ble_eq_true rfl | omega | (simp only [gR]; omega)) (Nat.le_of_ble_eq_true rfl) (Nat.le_of_ble_eq_true rfl) (fun a1 q2 F3 h4 e6 hx7 => ?_)
  have hcn5 : gCn d t 1 F F3 [.null, .null, .null, .null, .ref a1, .null, .null, .int 0, .int 0, .int 0, .int 0, .int 0, .int 0, .int 0, .int 0, .int 0, .int 0, .int 0, .int 0] [(a1, q2, 1000000, 0)] := h4
  refine g_newInts 1000000 hC hcn5 rfl rfl (by decide) (by decide) dX1_init_17 dX1_init_18 dX1_init_21 (fun _ _ _ _ kk => g_ldc hC dX1_init_22 kw_576 kk) dX1_init_24 dX1_init_27 nl_X1_9 cl_X1_12 fl_X1_21 (fun _ => ⟨rfl, rfl⟩) (Nat.le_of_ble_eq_true rfl) (fun _ => ⟨_, _, rfl⟩) (by first | exact Nat.le_of_ble_eq_true rfl | omega | (simp only [gR]; omega)) (by first | exact Nat.le_of_ble_eq_true rfl | omega | (simp only [gR]; omega)) (Nat.le_of_ble_eq_true rfl) (Nat.le_of_ble_eq_true rfl) (fun a8 q9 F10 h11 e13 hx14 => ?_)
  have hcn12 : gCn d t 1 F F10 [.null, .null, .null, .null, .ref a1, .ref a8, .null, .int 0, .int 0, .int 0, .int 0, .int 0, .int 0, .int 0, .int 0, .int 0, .int 0, .int 0, .int 0] [(a1, q2, 1000000, 0), (a8, q9, 1000000, 0)] := h11
  refine g_newInts 1000000 hC hcn12 rfl rfl (by decide) (by decide) dX1_init_30 dX1_init_31 dX1_init_34 (fun _ _ _ _ kk => g_ldc hC dX1_init_35 kw_576 kk) dX1_init_37 dX1_init_40 nl_X1_9 cl_X1_12 fl_X1_24 (fun _ => ⟨rfl, rfl⟩) (Nat.le_of_ble_eq_true rfl) (fun _ => ⟨_, _, rfl⟩) (by first | exact Nat.le_of_ble_eq_true rfl | omega | (simp only [gR]; omega)) (by first | exact Nat.le_of_ble_eq_true rfl | omega | (simp only [gR]; omega)) (Nat.le_of_ble_eq_true rfl) (Nat.le_of_ble_eq_true rfl) (fun a15 q16 F17 h18 e20 hx21 => ?_)
  have hcn19 : gCn d t 1 F F17 [.null, .null, .null, .null, .ref a1, .ref a8, .ref a15, .int 0, .int 0, .int 0, .int 0, .int 0, .int 0, .int 0, .int 0, .int 0, .int 0, .int 0, .int 0] [(a1, q2, 1000000, 0), (a8, q9, 1000000, 0), (a15, q16, 1000000, 0)] := h18
  refine g_aload_n hC dX1_init_43 rfl ?_
  refine g_iconst (v := (-1)) hC dX1_init_44 rfl ?_
  refine g_putC hC hcn19 fl_X1_27 rfl rfl (Nat.le_of_ble_eq_true rfl) rfl dX1_init_45 (fun F22 hcn23 hx24 => ?_)
  have hx25 : ∀ x, x ≠ t → F17 x ≠ g0 → F22 x = F17 x := fun x q _ => hx24 x q
  refine g_aload_n hC dX1_init_48 rfl ?_
  refine g_iconst (v := (-1)) hC dX1_init_49 rfl ?_
  refine g_putC hC hcn23 fl_X1_31 rfl rfl (Nat.le_of_ble_eq_true rfl) rfl dX1_init_50 (fun F26 hcn27 hx28 => ?_)
  have hx29 : ∀ x, x ≠ t → F22 x ≠ g0 → F26 x = F22 x := fun x q _ => hx28 x q
  refine g_aload_n hC dX1_init_53 rfl ?_
  refine g_iconst (v := (-1)) hC dX1_init_54 rfl ?_
  refine g_putC hC hcn27 fl_X1_34 rfl rfl (Nat.le_of_ble_eq_true rfl) rfl dX1_init_55 (fun F30 hcn31 hx32 => ?_)
  have hx33 : ∀ x, x ≠ t → F26 x ≠ g0 → F30 x = F26 x := fun x q _ => hx32 x q
  refine g_aload_n hC dX1_init_58 rfl ?_
  refine g_iconst (v := (-1)) hC dX1_init_59 rfl ?_
  refine g_putC hC hcn31 fl_X1_37 rfl rfl (Nat.le_of_ble_eq_true rfl) rfl dX1_init_60 (fun F34 hcn35 hx36 => ?_)
  have hx37 : ∀ x, x ≠ t → F30 x ≠ g0 → F34 x = F30 x := fun x q _ => hx36 x q
  refine g_aload_n hC dX1_init_63 rfl ?_
  refine g_iconst (v := 0) hC dX1_init_64 rfl ?_
  refine g_putC hC hcn35 fl_X1_40 rfl rfl (Nat.le_of_ble_eq_true rfl) rfl dX1_init_65 (fun F38 hcn39 hx40 => ?_)
  have hx41 : ∀ x, x ≠ t → F34 x ≠ g0 → F38 x = F34 x := fun x q _ => hx40 x q
  refine g_aload_n hC dX1_init_68 rfl ?_
  refine g_iconst (v := 0) hC dX1_init_69 rfl ?_
  refine g_putC hC hcn39 fl_X1_43 rfl rfl (Nat.le_of_ble_eq_true rfl) rfl dX1_init_70 (fun F42 hcn43 hx44 => ?_)
  have hx45 : ∀ x, x ≠ t → F38 x ≠ g0 → F42 x = F38 x := fun x q _ => hx44 x q
  refine g_aload_n hC dX1_init_73 rfl ?_
  refine g_iconst (v := 0) hC dX1_init_74 rfl ?_
  refine g_putC hC hcn43 fl_X1_46 rfl rfl (Nat.le_of_ble_eq_true rfl) rfl dX1_init_75 (fun F46 hcn47 hx48 => ?_)
  have hx49 : ∀ x, x ≠ t → F42 x ≠ g0 → F46 x = F42 x := fun x q _ => hx48 x q
  refine g_aload_n hC dX1_init_78 rfl ?_
  refine g_iconst (v := 0) hC dX1_init_79 rfl ?_
  refine g_putC hC hcn47 fl_X1_49 rfl rfl (Nat.le_of_ble_eq_true rfl) rfl dX1_init_80 (fun F50 hcn51 hx52 => ?_)
  have hx53 : ∀ x, x ≠ t → F46 x ≠ g0 → F50 x = F46 x := fun x q _ => hx52 x q
  refine g_aload_n hC dX1_init_83 rfl ?_
  refine g_iconst (v := (-1)) hC dX1_init_84 rfl ?_
  refine g_putC hC hcn51 fl_X1_52 rfl rfl (Nat.le_of_ble_eq_true rfl) rfl dX1_init_85 (fun F54 hcn55 hx56 => ?_)
  have hx57 : ∀ x, x ≠ t → F50 x ≠ g0 → F54 x = F50 x := fun x q _ => hx56 x q
  refine g_aload_n hC dX1_init_88 rfl ?_
  refine g_iconst (v := 0) hC dX1_init_89 rfl ?_
  refine g_putC hC hcn55 fl_X1_55 rfl rfl (Nat.le_of_ble_eq_true rfl) rfl dX1_init_90 (fun F58 hcn59 hx60 => ?_)
  have hx61 : ∀ x, x ≠ t → F54 x ≠ g0 → F58 x = F54 x := fun x q _ => hx60 x q
  refine g_aload_n hC dX1_init_93 rfl ?_
  refine g_iconst (v := 0) hC dX1_init_94 rfl ?_
  refine g_putC hC hcn59 fl_X1_58 rfl rfl (Nat.le_of_ble_eq_true rfl) rfl dX1_init_95 (fun F62 hcn63 hx64 => ?_)
  have hx65 : ∀ x, x ≠ t → F58 x ≠ g0 → F62 x = F58 x := fun x q _ => hx64 x q
  refine g_aload_n hC dX1_init_98 rfl ?_
  refine g_iconst (v := 0) hC dX1_init_99 rfl ?_
  refine g_putC hC hcn63 fl_X1_61 rfl rfl (Nat.le_of_ble_eq_true rfl) rfl dX1_init_100 (fun F66 hcn67 hx68 => ?_)
  have hx69 : ∀ x, x ≠ t → F62 x ≠ g0 → F66 x = F62 x := fun x q _ => hx68 x q
  refine g_aload_n hC dX1_init_103 rfl ?_
  refine g_aload_n hC dX1_init_104 rfl ?_
  refine g_putC hC hcn67 fl_X1_65 rfl rfl (Nat.le_of_ble_eq_true rfl) rfl dX1_init_105 (fun F70 hcn71 hx72 => ?_)
  have hx73 : ∀ x, x ≠ t → F66 x ≠ g0 → F70 x = F66 x := fun x q _ => hx72 x q
  refine g_aload_n hC dX1_init_108 rfl ?_
  refine g_aload_n hC dX1_init_109 rfl ?_
  refine g_putC hC hcn71 fl_X1_69 rfl rfl (Nat.le_of_ble_eq_true rfl) rfl dX1_init_110 (fun F74 hcn75 hx76 => ?_)
  have hx77 : ∀ x, x ≠ t → F70 x ≠ g0 → F74 x = F70 x := fun x q _ => hx76 x q
  refine g_aload_n hC dX1_init_113 rfl ?_
  refine g_new hC nl_X1_73 (by first | exact Nat.le_of_ble_eq_true rfl | omega | (simp only [gR]; omega)) (by first | exact Nat.le_of_ble_eq_true rfl | omega | (simp only [gR]; omega)) dX1_init_114 (fun o78 e_o78 => ?_)
  refine g_vF (fun F79 hF79 => ?_)
  obtain ⟨hcn80, hk81⟩ := gCn.newz hcn75 e_o78 hF79
  have hx82 : ∀ x, x ≠ t → F74 x ≠ g0 → F79 x = F74 x := fun x _ q => hk81 x q
  have f83 : F79 o78 = .inr (9, [.null, .null, .null, .null, .null, .null, .null, .int 0]) := by rw [hF79]; exact va_up_self _ _ _
  refine g_dup hC dX1_init_117 rfl ?_
  refine g_aload_n hC dX1_init_118 rfl ?_
  refine g_callIv (As := [.ref p1]) hC (k_Sco X.la d b F79 o78 p1 f83) cl_X1_75 rfl rfl (Nat.le_of_ble_eq_true rfl) (gFit_of (Nat.le_of_ble_eq_true rfl) (Nat.le_of_ble_eq_true rfl) (by first | exact Nat.le_of_ble_eq_true rfl | omega | (simp only [gR]; omega)) (by first | exact Nat.le_of_ble_eq_true rfl | omega | (simp only [gR]; omega))) dX1_init_119 (fun F84 p85 => ?_)
  obtain ⟨a86, q87, a88, q89, a90, q91, a92, q93, a94, q95, a96, q97, h98⟩ := p85
  obtain ⟨hcn99, hk100⟩ := gCn.call hcn75 e_o78 hF79 g0_o h98
  have hx101 : ∀ x, x ≠ t → F74 x ≠ g0 → F84 x = F74 x := fun x _ q => hk100 x q
  refine g_putC hC hcn99 fl_X1_78 rfl rfl (Nat.le_of_ble_eq_true rfl) rfl dX1_init_122 (fun F102 hcn103 hx104 => ?_)
  have hx105 : ∀ x, x ≠ t → F84 x ≠ g0 → F102 x = F84 x := fun x q _ => hx104 x q
  have f106 : F102 o78 = .inr (9, [.ref p1, .ref a86, .ref a88, .ref a90, .ref a92, .ref a94, .ref a96, .int 0]) := (hx105 o78 (gne h98.1 hcn99.1 (gk_oo rfl)) (by rw [h98.1]; exact g0_o)).trans h98.1
  refine g_aload_n hC dX1_init_125 rfl ?_
  refine g_new hC nl_X1_82 (by first | exact Nat.le_of_ble_eq_true rfl | omega | (simp only [gR]; omega)) (by first | exact Nat.le_of_ble_eq_true rfl | omega | (simp only [gR]; omega)) dX1_init_126 (fun o107 e_o107 => ?_)
  refine g_vF (fun F108 hF108 => ?_)
  obtain ⟨hcn109, hk110⟩ := gCn.newz hcn103 e_o107 hF108
  have hx111 : ∀ x, x ≠ t → F102 x ≠ g0 → F108 x = F102 x := fun x _ q => hk110 x q
  have f112 : F108 o78 = .inr (9, [.ref p1, .ref a86, .ref a88, .ref a90, .ref a92, .ref a94, .ref a96, .int 0]) := (hx111 o78 (gne f106 hcn103.1 (gk_oo rfl)) (by rw [f106]; exact g0_o)).trans f106
  have f113 : F108 o107 = .inr (2, [.null, .null, .null, .null, .int 0, .int 0, .int 0]) := by rw [hF108]; exact va_up_self _ _ _
  refine g_dup hC dX1_init_129 rfl ?_
  refine g_aload_n hC dX1_init_130 rfl ?_
  refine g_aload_n hC dX1_init_131 rfl ?_
  refine g_aload_n hC dX1_init_132 rfl ?_
  refine g_get hC fl_X1_78 hcn109.1 rfl dX1_init_133 ?_
  refine g_callIv (As := [.ref p0, .ref p1, .ref o78]) hC (k_Con X.la d b F108 o107 p0 p1 o78 f113) cl_X1_84 rfl rfl (Nat.le_of_ble_eq_true rfl) (gFit_of (Nat.le_of_ble_eq_true rfl) (Nat.le_of_ble_eq_true rfl) (by first | exact Nat.le_of_ble_eq_true rfl | omega | (simp only [gR]; omega)) (by first | exact Nat.le_of_ble_eq_true rfl | omega | (simp only [gR]; omega))) dX1_init_136 (fun F114 p115 => ?_)
  obtain ⟨a116, q117, h118⟩ := p115
  obtain ⟨hcn119, hk120⟩ := gCn.call hcn103 e_o107 hF108 g0_o h118
  have hx121 : ∀ x, x ≠ t → F102 x ≠ g0 → F114 x = F102 x := fun x _ q => hk120 x q
  have f122 : F114 o78 = .inr (9, [.ref p1, .ref a86, .ref a88, .ref a90, .ref a92, .ref a94, .ref a96, .int 0]) := (hx121 o78 (gne f106 hcn103.1 (gk_oo rfl)) (by rw [f106]; exact g0_o)).trans f106
  refine g_putC hC hcn119 fl_X1_87 rfl rfl (Nat.le_of_ble_eq_true rfl) rfl dX1_init_139 (fun F123 hcn124 hx125 => ?_)
  have hx126 : ∀ x, x ≠ t → F114 x ≠ g0 → F123 x = F114 x := fun x q _ => hx125 x q
  have f127 : F123 o78 = .inr (9, [.ref p1, .ref a86, .ref a88, .ref a90, .ref a92, .ref a94, .ref a96, .int 0]) := (hx126 o78 (gne f122 hcn119.1 (gk_oo rfl)) (by rw [f122]; exact g0_o)).trans f122
  have f128 : F123 o107 = .inr (2, [.ref p0, .ref p1, .ref o78, .ref a116, .int 0, .int 0, .int 0]) := (hx126 o107 (gne h118.1 hcn119.1 (gk_oo rfl)) (by rw [h118.1]; exact g0_o)).trans h118.1
  exact g_vret hC ⟨a1, q2, a8, q9, a15, q16, a86, q87, a88, q89, a90, q91, a92, q93, a94, q95, a96, q97, a116, q117, o78, o107, hcn124, f127, f128⟩ (by first | exact Nat.le_of_ble_eq_true rfl | omega | (simp only [gR]; omega)) (by first | exact Nat.le_of_ble_eq_true rfl | omega | (simp only [gR]; omega)) dX1_init_142
theorem dX5_init_0 : decode cX5_init 0 = .ok (.aload_n 0, 1) := by decide +kernel
theorem dX5_init_1 : decode cX5_init 1 = .ok (.invokespecial 3, 3) := by decide +kernel
theorem dX5_init_4 : decode cX5_init 4 = .ok (.aload_n 0, 1) := by decide +kernel
theorem dX5_init_5 : decode cX5_init 5 = .ok (.new 9, 3) := by decide +kernel
theorem dX5_init_8 : decode cX5_init 8 = .ok (.dup, 1) := by decide +kernel
theorem dX5_init_9 : decode cX5_init 9 = .ok (.invokespecial 11, 3) := by decide +kernel
theorem dX5_init_12 : decode cX5_init 12 = .ok (.putfield 12, 3) := by decide +kernel
theorem dX5_init_15 : decode cX5_init 15 = .ok (.aload_n 0, 1) := by decide +kernel
theorem dX5_init_16 : decode cX5_init 16 = .ok (.new 18, 3) := by decide +kernel
theorem dX5_init_19 : decode cX5_init 19 = .ok (.dup, 1) := by decide +kernel
theorem dX5_init_20 : decode cX5_init 20 = .ok (.ldc 20, 2) := by decide +kernel
theorem dX5_init_22 : decode cX5_init 22 = .ok (.invokespecial 21, 3) := by decide +kernel
theorem dX5_init_25 : decode cX5_init 25 = .ok (.putfield 24, 3) := by decide +kernel
theorem dX5_init_28 : decode cX5_init 28 = .ok (.aload_n 0, 1) := by decide +kernel
theorem dX5_init_29 : decode cX5_init 29 = .ok (.new 18, 3) := by decide +kernel
theorem dX5_init_32 : decode cX5_init 32 = .ok (.dup, 1) := by decide +kernel
theorem dX5_init_33 : decode cX5_init 33 = .ok (.ldc 20, 2) := by decide +kernel
theorem dX5_init_35 : decode cX5_init 35 = .ok (.invokespecial 21, 3) := by decide +kernel
theorem dX5_init_38 : decode cX5_init 38 = .ok (.putfield 28, 3) := by decide +kernel
theorem dX5_init_41 : decode cX5_init 41 = .ok (.aload_n 0, 1) := by decide +kernel
theorem dX5_init_42 : decode cX5_init 42 = .ok (.sipush 4096, 3) := by decide +kernel
theorem dX5_init_45 : decode cX5_init 45 = .ok (.newarray .int, 2) := by decide +kernel
theorem dX5_init_47 : decode cX5_init 47 = .ok (.putfield 31, 3) := by decide +kernel
theorem dX5_init_50 : decode cX5_init 50 = .ok (.aload_n 0, 1) := by decide +kernel
theorem dX5_init_51 : decode cX5_init 51 = .ok (.iconst 0, 1) := by decide +kernel
theorem dX5_init_52 : decode cX5_init 52 = .ok (.putfield 35, 3) := by decide +kernel
theorem dX5_init_55 : decode cX5_init 55 = .ok (.aload_n 0, 1) := by decide +kernel
theorem dX5_init_56 : decode cX5_init 56 = .ok (.iconst 0, 1) := by decide +kernel
theorem dX5_init_57 : decode cX5_init 57 = .ok (.putfield 39, 3) := by decide +kernel
theorem dX5_init_60 : decode cX5_init 60 = .ok (.aload_n 0, 1) := by decide +kernel
theorem dX5_init_61 : decode cX5_init 61 = .ok (.iconst 0, 1) := by decide +kernel
theorem dX5_init_62 : decode cX5_init 62 = .ok (.putfield 42, 3) := by decide +kernel
theorem dX5_init_65 : decode cX5_init 65 = .ok (.aload_n 0, 1) := by decide +kernel
theorem dX5_init_66 : decode cX5_init 66 = .ok (.iconst (-1), 1) := by decide +kernel
theorem dX5_init_67 : decode cX5_init 67 = .ok (.putfield 45, 3) := by decide +kernel
theorem dX5_init_70 : decode cX5_init 70 = .ok (.aload_n 0, 1) := by decide +kernel
theorem dX5_init_71 : decode cX5_init 71 = .ok (.iconst 0, 1) := by decide +kernel
theorem dX5_init_72 : decode cX5_init 72 = .ok (.putfield 48, 3) := by decide +kernel
theorem dX5_init_75 : decode cX5_init 75 = .ok (.aload_n 0, 1) := by decide +kernel
theorem dX5_init_76 : decode cX5_init 76 = .ok (.iconst 0, 1) := by decide +kernel
theorem dX5_init_77 : decode cX5_init 77 = .ok (.putfield 51, 3) := by decide +kernel
theorem dX5_init_80 : decode cX5_init 80 = .ok (.aload_n 0, 1) := by decide +kernel
theorem dX5_init_81 : decode cX5_init 81 = .ok (.iconst 0, 1) := by decide +kernel
theorem dX5_init_82 : decode cX5_init 82 = .ok (.putfield 54, 3) := by decide +kernel
theorem dX5_init_85 : decode cX5_init 85 = .ok (.aload_n 0, 1) := by decide +kernel
theorem dX5_init_86 : decode cX5_init 86 = .ok (.iconst 0, 1) := by decide +kernel
theorem dX5_init_87 : decode cX5_init 87 = .ok (.putfield 57, 3) := by decide +kernel
theorem dX5_init_90 : decode cX5_init 90 = .ok (.aload_n 0, 1) := by decide +kernel
theorem dX5_init_91 : decode cX5_init 91 = .ok (.iconst (-1), 1) := by decide +kernel
theorem dX5_init_92 : decode cX5_init 92 = .ok (.putfield 61, 3) := by decide +kernel
theorem dX5_init_95 : decode cX5_init 95 = .ok (.aload_n 0, 1) := by decide +kernel
theorem dX5_init_96 : decode cX5_init 96 = .ok (.iconst 0, 1) := by decide +kernel
theorem dX5_init_97 : decode cX5_init 97 = .ok (.putfield 64, 3) := by decide +kernel
theorem dX5_init_100 : decode cX5_init 100 = .ok (.aload_n 0, 1) := by decide +kernel
theorem dX5_init_101 : decode cX5_init 101 = .ok (.aload_n 1, 1) := by decide +kernel
theorem dX5_init_102 : decode cX5_init 102 = .ok (.putfield 67, 3) := by decide +kernel
theorem dX5_init_105 : decode cX5_init 105 = .ok (.aload_n 0, 1) := by decide +kernel
theorem dX5_init_106 : decode cX5_init 106 = .ok (.aload_n 2, 1) := by decide +kernel
theorem dX5_init_107 : decode cX5_init 107 = .ok (.putfield 71, 3) := by decide +kernel
theorem dX5_init_110 : decode cX5_init 110 = .ok (.return_, 1) := by decide +kernel
set_option maxHeartbeats 4000000 in
set_option maxRecDepth 100000 in
theorem k_Mac (l : Launch) (d : gD) (b : Nat) (F : gM) (t : Nat) (p0 p1 : Nat) (h : F t = .inr (5, [.null, .null, .null, .null, .null, .null, .int 0, .int 0, .int 0, .int 0, .int 0, .int 0, .int 0, .int 0, .int 0, .int 0]))  : gMv l d b yX5_init cX5_init 3 5 10 4174 F [.ref t, .ref p0, .ref p1] (fun F' => ∃ a0 q1 a2 q3 a4 q5 a6 q7 q8 o9 : Nat, gCn d t 5 F F' [.ref p0, .ref p1, .ref o9, .ref a4, .ref a6, .ref q8, .int 0, .int 0, .int 0, .int (-1), .int 0, .int 0, .int 0, .int 0, .int (-1), .int 0] [(a0, q1, 100, 0), (a2, q3, 100, 0), (a4, q5, 1000000, 0), (a6, q7, 1000000, 0), (q8, q8, 4096, 2)] ∧ F' o9 = .inr (3, [.ref a0, .ref a2])) := by
  refine gM_of2 rfl (nL := 3) (Nat.le_of_ble_eq_true rfl) ?_
  intro X hX hC; subst hX
  show gG X d b _ F 0 0 0 [some (.ref t), some (.ref p0), some (.ref p1)] []
  have hcn : gCn d t 5 F F [.null, .null, .null, .null, .null, .null, .int 0, .int 0, .int 0, .int 0, .int 0, .int 0, .int 0, .int 0, .int 0, .int 0] [] := ⟨h, by rw [h]; exact g0_o, gEx.rf, gNw.nil⟩
  refine g_aload_n hC dX5_init_0 rfl ?_
  refine g_objInit hC dX5_init_1 kw_731 rfl ⟨Nat.le_of_ble_eq_true rfl, Nat.le_of_ble_eq_true rfl⟩ (Nat.le_of_ble_eq_true rfl) ?_
  refine g_aload_n hC dX5_init_4 rfl ?_
  refine g_new hC nl_X5_9 (by first | exact Nat.le_of_ble_eq_true rfl | omega | (simp only [gR]; omega)) (by first | exact Nat.le_of_ble_eq_true rfl | omega | (simp only [gR]; omega)) dX5_init_5 (fun o1 e_o1 => ?_)
  refine g_vF (fun F2 hF2 => ?_)
  obtain ⟨hcn3, hk4⟩ := gCn.newz hcn e_o1 hF2
  have hx5 : ∀ x, x ≠ t → F x ≠ g0 → F2 x = F x := fun x _ q => hk4 x q
  have f6 : F2 o1 = .inr (3, [.null, .null]) := by rw [hF2]; exact va_up_self _ _ _
  refine g_dup hC dX5_init_8 rfl ?_
  refine g_callINv (As := []) hC (k_H X.la d b F2 o1 f6) cl_X5_11 rfl rfl (Nat.le_of_ble_eq_true rfl) (gFit_of (Nat.le_of_ble_eq_true rfl) (Nat.le_of_ble_eq_true rfl) (by first | exact Nat.le_of_ble_eq_true rfl | omega | (simp only [gR]; omega)) (by first | exact Nat.le_of_ble_eq_true rfl | omega | (simp only [gR]; omega))) dX5_init_9 (fun F7 p8 => ?_)
  obtain ⟨a9, q10, a11, q12, h13⟩ := p8
  obtain ⟨hcn14, hk15⟩ := gCn.call hcn e_o1 hF2 g0_o h13
  have hx16 : ∀ x, x ≠ t → F x ≠ g0 → F7 x = F x := fun x _ q => hk15 x q
  refine g_putC hC hcn14 fl_X5_12 rfl rfl (Nat.le_of_ble_eq_true rfl) rfl dX5_init_12 (fun F17 hcn18 hx19 => ?_)
  have hx20 : ∀ x, x ≠ t → F7 x ≠ g0 → F17 x = F7 x := fun x q _ => hx19 x q
  have f21 : F17 o1 = .inr (3, [.ref a9, .ref a11]) := (hx20 o1 (gne h13.1 hcn14.1 (gk_oo rfl)) (by rw [h13.1]; exact g0_o)).trans h13.1
  refine g_newInts 1000000 hC hcn18 rfl rfl (by decide) (by decide) dX5_init_15 dX5_init_16 dX5_init_19 (fun _ _ _ _ kk => g_ldc hC dX5_init_20 kw_748 kk) dX5_init_22 dX5_init_25 nl_X5_18 cl_X5_21 fl_X5_24 (fun _ => ⟨rfl, rfl⟩) (Nat.le_of_ble_eq_true rfl) (fun _ => ⟨_, _, rfl⟩) (by first | exact Nat.le_of_ble_eq_true rfl | omega | (simp only [gR]; omega)) (by first | exact Nat.le_of_ble_eq_true rfl | omega | (simp only [gR]; omega)) (Nat.le_of_ble_eq_true rfl) (Nat.le_of_ble_eq_true rfl) (fun a22 q23 F24 h25 e27 hx28 => ?_)
  have f29 : F24 o1 = .inr (3, [.ref a9, .ref a11]) := (hx28 o1 (gne f21 hcn18.1 (gk_oo rfl)) (by rw [f21]; exact g0_o)).trans f21
  have hcn26 : gCn d t 5 F F24 [.null, .null, .ref o1, .ref a22, .null, .null, .int 0, .int 0, .int 0, .int 0, .int 0, .int 0, .int 0, .int 0, .int 0, .int 0] [(a9, q10, 100, 0), (a11, q12, 100, 0), (a22, q23, 1000000, 0)] := h25
  refine g_newInts 1000000 hC hcn26 rfl rfl (by decide) (by decide) dX5_init_28 dX5_init_29 dX5_init_32 (fun _ _ _ _ kk => g_ldc hC dX5_init_33 kw_748 kk) dX5_init_35 dX5_init_38 nl_X5_18 cl_X5_21 fl_X5_28 (fun _ => ⟨rfl, rfl⟩) (Nat.le_of_ble_eq_true rfl) (fun _ => ⟨_, _, rfl⟩) (by first | exact Nat.le_of_ble_eq_true rfl | omega | (simp only [gR]; omega)) (by first | exact Nat.le_of_ble_eq_true rfl | omega | (simp only [gR]; omega)) (Nat.le_of_ble_eq_true rfl) (Nat.le_of_ble_eq_true rfl) (fun a30 q31 F32 h33 e35 hx36 => ?_)
  have f37 : F32 o1 = .inr (3, [.ref a9, .ref a11]) := (hx36 o1 (gne f29 hcn26.1 (gk_oo rfl)) (by rw [f29]; exact g0_o)).trans f29
  have hcn34 : gCn d t 5 F F32 [.null, .null, .ref o1, .ref a22, .ref a30, .null, .int 0, .int 0, .int 0, .int 0, .int 0, .int 0, .int 0, .int 0, .int 0, .int 0] [(a9, q10, 100, 0), (a11, q12, 100, 0), (a22, q23, 1000000, 0), (a30, q31, 1000000, 0)] := h33
  refine g_aload_n hC dX5_init_41 rfl ?_
  refine g_sipush (v := 4096) hC dX5_init_42 rfl ?_
  refine g_newa (atype := .int) (N := 4096) (a0 := (4096, .inl (fun _ => 0))) hC 0 kw_288 rfl (by decide) (fun _ => rfl) (by decide) rfl (Nat.le_of_ble_eq_true rfl) (by first | exact Nat.le_of_ble_eq_true rfl | omega | (simp only [gR]; omega)) (by first | exact Nat.le_of_ble_eq_true rfl | omega | (simp only [gR]; omega)) dX5_init_45 (fun q38 e_q38 => ?_)
  refine g_vF (fun F39 hF39 => ?_)
  obtain ⟨hcn40, hk41⟩ := gCn.arr hcn34 e_q38 hF39
  have hx42 : ∀ x, x ≠ t → F32 x ≠ g0 → F39 x = F32 x := fun x _ q => hk41 x q
  have f43 : F39 o1 = .inr (3, [.ref a9, .ref a11]) := (hx42 o1 (gne f37 hcn34.1 (gk_oo rfl)) (by rw [f37]; exact g0_o)).trans f37
  refine g_putC hC hcn40 fl_X5_31 rfl rfl (Nat.le_of_ble_eq_true rfl) rfl dX5_init_47 (fun F44 hcn45 hx46 => ?_)
  have hx47 : ∀ x, x ≠ t → F39 x ≠ g0 → F44 x = F39 x := fun x q _ => hx46 x q
  have f48 : F44 o1 = .inr (3, [.ref a9, .ref a11]) := (hx47 o1 (gne f43 hcn40.1 (gk_oo rfl)) (by rw [f43]; exact g0_o)).trans f43
  refine g_aload_n hC dX5_init_50 rfl ?_
  refine g_iconst (v := 0) hC dX5_init_51 rfl ?_
  refine g_putC hC hcn45 fl_X5_35 rfl rfl (Nat.le_of_ble_eq_true rfl) rfl dX5_init_52 (fun F49 hcn50 hx51 => ?_)
  have hx52 : ∀ x, x ≠ t → F44 x ≠ g0 → F49 x = F44 x := fun x q _ => hx51 x q
  have f53 : F49 o1 = .inr (3, [.ref a9, .ref a11]) := (hx52 o1 (gne f48 hcn45.1 (gk_oo rfl)) (by rw [f48]; exact g0_o)).trans f48
  refine g_aload_n hC dX5_init_55 rfl ?_
  refine g_iconst (v := 0) hC dX5_init_56 rfl ?_
  refine g_putC hC hcn50 fl_X5_39 rfl rfl (Nat.le_of_ble_eq_true rfl) rfl dX5_init_57 (fun F54 hcn55 hx56 => ?_)
  have hx57 : ∀ x, x ≠ t → F49 x ≠ g0 → F54 x = F49 x := fun x q _ => hx56 x q
  have f58 : F54 o1 = .inr (3, [.ref a9, .ref a11]) := (hx57 o1 (gne f53 hcn50.1 (gk_oo rfl)) (by rw [f53]; exact g0_o)).trans f53
  refine g_aload_n hC dX5_init_60 rfl ?_
  refine g_iconst (v := 0) hC dX5_init_61 rfl ?_
  refine g_putC hC hcn55 fl_X5_42 rfl rfl (Nat.le_of_ble_eq_true rfl) rfl dX5_init_62 (fun F59 hcn60 hx61 => ?_)
  have hx62 : ∀ x, x ≠ t → F54 x ≠ g0 → F59 x = F54 x := fun x q _ => hx61 x q
  have f63 : F59 o1 = .inr (3, [.ref a9, .ref a11]) := (hx62 o1 (gne f58 hcn55.1 (gk_oo rfl)) (by rw [f58]; exact g0_o)).trans f58
  refine g_aload_n hC dX5_init_65 rfl ?_
  refine g_iconst (v := (-1)) hC dX5_init_66 rfl ?_
  refine g_putC hC hcn60 fl_X5_45 rfl rfl (Nat.le_of_ble_eq_true rfl) rfl dX5_init_67 (fun F64 hcn65 hx66 => ?_)
  have hx67 : ∀ x, x ≠ t → F59 x ≠ g0 → F64 x = F59 x := fun x q _ => hx66 x q
  have f68 : F64 o1 = .inr (3, [.ref a9, .ref a11]) := (hx67 o1 (gne f63 hcn60.1 (gk_oo rfl)) (by rw [f63]; exact g0_o)).trans f63
  refine g_aload_n hC dX5_init_70 rfl ?_
  refine g_iconst (v := 0) hC dX5_init_71 rfl ?_
  refine g_putC hC hcn65 fl_X5_48 rfl rfl (Nat.le_of_ble_eq_true rfl) rfl dX5_init_72 (fun F69 hcn70 hx71 => ?_)
  have hx72 : ∀ x, x ≠ t → F64 x ≠ g0 → F69 x = F64 x := fun x q _ => hx71 x q
  have f73 : F69 o1 = .inr (3, [.ref a9, .ref a11]) := (hx72 o1 (gne f68 hcn65.1 (gk_oo rfl)) (by rw [f68]; exact g0_o)).trans f68
  refine g_aload_n hC dX5_init_75 rfl ?_
  refine g_iconst (v := 0) hC dX5_init_76 rfl ?_
  refine g_putC hC hcn70 fl_X5_51 rfl rfl (Nat.le_of_ble_eq_true rfl) rfl dX5_init_77 (fun F74 hcn75 hx76 => ?_)
  have hx77 : ∀ x, x ≠ t → F69 x ≠ g0 → F74 x = F69 x := fun x q _ => hx76 x q
  have f78 : F74 o1 = .inr (3, [.ref a9, .ref a11]) := (hx77 o1 (gne f73 hcn70.1 (gk_oo rfl)) (by rw [f73]; exact g0_o)).trans f73
  refine g_aload_n hC dX5_init_80 rfl ?_
  refine g_iconst (v := 0) hC dX5_init_81 rfl ?_
  refine g_putC hC hcn75 fl_X5_54 rfl rfl (Nat.le_of_ble_eq_true rfl) rfl dX5_init_82 (fun F79 hcn80 hx81 => ?_)
  have hx82 : ∀ x, x ≠ t → F74 x ≠ g0 → F79 x = F74 x := fun x q _ => hx81 x q
  have f83 : F79 o1 = .inr (3, [.ref a9, .ref a11]) := (hx82 o1 (gne f78 hcn75.1 (gk_oo rfl)) (by rw [f78]; exact g0_o)).trans f78
  refine g_aload_n hC dX5_init_85 rfl ?_
  refine g_iconst (v := 0) hC dX5_init_86 rfl ?_
  refine g_putC hC hcn80 fl_X5_57 rfl rfl (Nat.le_of_ble_eq_true rfl) rfl dX5_init_87 (fun F84 hcn85 hx86 => ?_)
  have hx87 : ∀ x, x ≠ t → F79 x ≠ g0 → F84 x = F79 x := fun x q _ => hx86 x q
  have f88 : F84 o1 = .inr (3, [.ref a9, .ref a11]) := (hx87 o1 (gne f83 hcn80.1 (gk_oo rfl)) (by rw [f83]; exact g0_o)).trans f83
  refine g_aload_n hC dX5_init_90 rfl ?_
  refine g_iconst (v := (-1)) hC dX5_init_91 rfl ?_
  refine g_putC hC hcn85 fl_X5_61 rfl rfl (Nat.le_of_ble_eq_true rfl) rfl dX5_init_92 (fun F89 hcn90 hx91 => ?_)
  have hx92 : ∀ x, x ≠ t → F84 x ≠ g0 → F89 x = F84 x := fun x q _ => hx91 x q
  have f93 : F89 o1 = .inr (3, [.ref a9, .ref a11]) := (hx92 o1 (gne f88 hcn85.1 (gk_oo rfl)) (by rw [f88]; exact g0_o)).trans f88
  refine g_aload_n hC dX5_init_95 rfl ?_
  refine g_iconst (v := 0) hC dX5_init_96 rfl ?_
  refine g_putC hC hcn90 fl_X5_64 rfl rfl (Nat.le_of_ble_eq_true rfl) rfl dX5_init_97 (fun F94 hcn95 hx96 => ?_)
  have hx97 : ∀ x, x ≠ t → F89 x ≠ g0 → F94 x = F89 x := fun x q _ => hx96 x q
  have f98 : F94 o1 = .inr (3, [.ref a9, .ref a11]) := (hx97 o1 (gne f93 hcn90.1 (gk_oo rfl)) (by rw [f93]; exact g0_o)).trans f93
  refine g_aload_n hC dX5_init_100 rfl ?_
  refine g_aload_n hC dX5_init_101 rfl ?_
  refine g_putC hC hcn95 fl_X5_67 rfl rfl (Nat.le_of_ble_eq_true rfl) rfl dX5_init_102 (fun F99 hcn100 hx101 => ?_)
  have hx102 : ∀ x, x ≠ t → F94 x ≠ g0 → F99 x = F94 x := fun x q _ => hx101 x q
  have f103 : F99 o1 = .inr (3, [.ref a9, .ref a11]) := (hx102 o1 (gne f98 hcn95.1 (gk_oo rfl)) (by rw [f98]; exact g0_o)).trans f98
  refine g_aload_n hC dX5_init_105 rfl ?_
  refine g_aload_n hC dX5_init_106 rfl ?_
  refine g_putC hC hcn100 fl_X5_71 rfl rfl (Nat.le_of_ble_eq_true rfl) rfl dX5_init_107 (fun F104 hcn105 hx106 => ?_)
  have hx107 : ∀ x, x ≠ t → F99 x ≠ g0 → F104 x = F99 x := fun x q _ => hx106 x q
  have f108 : F104 o1 = .inr (3, [.ref a9, .ref a11]) := (hx107 o1 (gne f103 hcn100.1 (gk_oo rfl)) (by rw [f103]; exact g0_o)).trans f103
  exact g_vret hC ⟨a9, q10, a11, q12, a22, q23, a30, q31, q38, o1, hcn105, f108⟩ (by first | exact Nat.le_of_ble_eq_true rfl | omega | (simp only [gR]; omega)) (by first | exact Nat.le_of_ble_eq_true rfl | omega | (simp only [gR]; omega)) dX5_init_110
theorem dX0_init_0 : decode cX0_init 0 = .ok (.aload_n 0, 1) := by decide +kernel
theorem dX0_init_1 : decode cX0_init 1 = .ok (.invokespecial 3, 3) := by decide +kernel
theorem dX0_init_4 : decode cX0_init 4 = .ok (.aload_n 0, 1) := by decide +kernel
theorem dX0_init_5 : decode cX0_init 5 = .ok (.iconst 4, 1) := by decide +kernel
theorem dX0_init_6 : decode cX0_init 6 = .ok (.anewarray 9, 3) := by decide +kernel
theorem dX0_init_9 : decode cX0_init 9 = .ok (.dup, 1) := by decide +kernel
theorem dX0_init_10 : decode cX0_init 10 = .ok (.iconst 0, 1) := by decide +kernel
theorem dX0_init_11 : decode cX0_init 11 = .ok (.new 9, 3) := by decide +kernel
theorem dX0_init_14 : decode cX0_init 14 = .ok (.dup, 1) := by decide +kernel
theorem dX0_init_15 : decode cX0_init 15 = .ok (.sipush 6000, 3) := by decide +kernel
theorem dX0_init_18 : decode cX0_init 18 = .ok (.invokespecial 11, 3) := by decide +kernel
theorem dX0_init_21 : decode cX0_init 21 = .ok (.aastore, 1) := by decide +kernel
theorem dX0_init_22 : decode cX0_init 22 = .ok (.dup, 1) := by decide +kernel
theorem dX0_init_23 : decode cX0_init 23 = .ok (.iconst 1, 1) := by decide +kernel
theorem dX0_init_24 : decode cX0_init 24 = .ok (.new 9, 3) := by decide +kernel
theorem dX0_init_27 : decode cX0_init 27 = .ok (.dup, 1) := by decide +kernel
theorem dX0_init_28 : decode cX0_init 28 = .ok (.sipush 6000, 3) := by decide +kernel
theorem dX0_init_31 : decode cX0_init 31 = .ok (.invokespecial 11, 3) := by decide +kernel
theorem dX0_init_34 : decode cX0_init 34 = .ok (.aastore, 1) := by decide +kernel
theorem dX0_init_35 : decode cX0_init 35 = .ok (.dup, 1) := by decide +kernel
theorem dX0_init_36 : decode cX0_init 36 = .ok (.iconst 2, 1) := by decide +kernel
theorem dX0_init_37 : decode cX0_init 37 = .ok (.new 9, 3) := by decide +kernel
theorem dX0_init_40 : decode cX0_init 40 = .ok (.dup, 1) := by decide +kernel
theorem dX0_init_41 : decode cX0_init 41 = .ok (.sipush 6000, 3) := by decide +kernel
theorem dX0_init_44 : decode cX0_init 44 = .ok (.invokespecial 11, 3) := by decide +kernel
theorem dX0_init_47 : decode cX0_init 47 = .ok (.aastore, 1) := by decide +kernel
theorem dX0_init_48 : decode cX0_init 48 = .ok (.dup, 1) := by decide +kernel
theorem dX0_init_49 : decode cX0_init 49 = .ok (.iconst 3, 1) := by decide +kernel
theorem dX0_init_50 : decode cX0_init 50 = .ok (.new 9, 3) := by decide +kernel
theorem dX0_init_53 : decode cX0_init 53 = .ok (.dup, 1) := by decide +kernel
theorem dX0_init_54 : decode cX0_init 54 = .ok (.sipush 6000, 3) := by decide +kernel
theorem dX0_init_57 : decode cX0_init 57 = .ok (.invokespecial 11, 3) := by decide +kernel
theorem dX0_init_60 : decode cX0_init 60 = .ok (.aastore, 1) := by decide +kernel
theorem dX0_init_61 : decode cX0_init 61 = .ok (.putfield 14, 3) := by decide +kernel
theorem dX0_init_64 : decode cX0_init 64 = .ok (.aload_n 0, 1) := by decide +kernel
theorem dX0_init_65 : decode cX0_init 65 = .ok (.iconst 4, 1) := by decide +kernel
theorem dX0_init_66 : decode cX0_init 66 = .ok (.newarray .int, 2) := by decide +kernel
theorem dX0_init_68 : decode cX0_init 68 = .ok (.putfield 20, 3) := by decide +kernel
theorem dX0_init_71 : decode cX0_init 71 = .ok (.aload_n 0, 1) := by decide +kernel
theorem dX0_init_72 : decode cX0_init 72 = .ok (.iconst 2, 1) := by decide +kernel
theorem dX0_init_73 : decode cX0_init 73 = .ok (.anewarray 9, 3) := by decide +kernel
theorem dX0_init_76 : decode cX0_init 76 = .ok (.dup, 1) := by decide +kernel
theorem dX0_init_77 : decode cX0_init 77 = .ok (.iconst 0, 1) := by decide +kernel
theorem dX0_init_78 : decode cX0_init 78 = .ok (.new 9, 3) := by decide +kernel
theorem dX0_init_81 : decode cX0_init 81 = .ok (.dup, 1) := by decide +kernel
theorem dX0_init_82 : decode cX0_init 82 = .ok (.sipush 4096, 3) := by decide +kernel
theorem dX0_init_85 : decode cX0_init 85 = .ok (.invokespecial 11, 3) := by decide +kernel
theorem dX0_init_88 : decode cX0_init 88 = .ok (.aastore, 1) := by decide +kernel
theorem dX0_init_89 : decode cX0_init 89 = .ok (.dup, 1) := by decide +kernel
theorem dX0_init_90 : decode cX0_init 90 = .ok (.iconst 1, 1) := by decide +kernel
theorem dX0_init_91 : decode cX0_init 91 = .ok (.new 9, 3) := by decide +kernel
theorem dX0_init_94 : decode cX0_init 94 = .ok (.dup, 1) := by decide +kernel
theorem dX0_init_95 : decode cX0_init 95 = .ok (.sipush 4096, 3) := by decide +kernel
theorem dX0_init_98 : decode cX0_init 98 = .ok (.invokespecial 11, 3) := by decide +kernel
theorem dX0_init_101 : decode cX0_init 101 = .ok (.aastore, 1) := by decide +kernel
theorem dX0_init_102 : decode cX0_init 102 = .ok (.putfield 24, 3) := by decide +kernel
theorem dX0_init_105 : decode cX0_init 105 = .ok (.aload_n 0, 1) := by decide +kernel
theorem dX0_init_106 : decode cX0_init 106 = .ok (.iconst 0, 1) := by decide +kernel
theorem dX0_init_107 : decode cX0_init 107 = .ok (.putfield 27, 3) := by decide +kernel
theorem dX0_init_110 : decode cX0_init 110 = .ok (.aload_n 0, 1) := by decide +kernel
theorem dX0_init_111 : decode cX0_init 111 = .ok (.iconst 0, 1) := by decide +kernel
theorem dX0_init_112 : decode cX0_init 112 = .ok (.putfield 31, 3) := by decide +kernel
theorem dX0_init_115 : decode cX0_init 115 = .ok (.return_, 1) := by decide +kernel
set_option maxHeartbeats 4000000 in
set_option maxRecDepth 100000 in
theorem k_Cha (l : Launch) (d : gD) (b : Nat) (F : gM) (t : Nat)  (h : F t = .inr (0, [.null, .null, .null, .int 0, .int 0]))  : gMv l d b yX0_init cX0_init 1 5 15 124 F [.ref t] (fun F' => ∃ o0 q1 o2 q3 o4 q5 o6 q7 q8 o9 q10 o11 q12 z13 z14 : Nat, gCn d t 0 F F' [.ref z13, .ref q8, .ref z14, .int 0, .int 0] [(o0, q1, 6000, 0), (o2, q3, 6000, 0), (o4, q5, 6000, 0), (o6, q7, 6000, 0), (q8, q8, 4, 2), (o9, q10, 4096, 0), (o11, q12, 4096, 0)] ∧ F' z13 = .inl (gO d, 4, .inr (.inr (.inr (.inr (va_up (va_up (va_up (va_up (fun _ => none) 0 (some o0)) 1 (some o2)) 2 (some o4)) 3 (some o6)))))) ∧ F' z14 = .inl (gO d, 2, .inr (.inr (.inr (.inr (va_up (va_up (fun _ => none) 0 (some o9)) 1 (some o11))))))) := by
  refine gM_of2 rfl (nL := 1) (Nat.le_of_ble_eq_true rfl) ?_
  intro X hX hC; subst hX
  show gG X d b _ F 0 0 0 [some (.ref t)] []
  have hcn : gCn d t 0 F F [.null, .null, .null, .int 0, .int 0] [] := ⟨h, by rw [h]; exact g0_o, gEx.rf, gNw.nil⟩
  refine g_aload_n hC dX0_init_0 rfl ?_
  refine g_objInit hC dX0_init_1 kw_706 rfl ⟨Nat.le_of_ble_eq_true rfl, Nat.le_of_ble_eq_true rfl⟩ (Nat.le_of_ble_eq_true rfl) ?_
  refine g_aload_n hC dX0_init_4 rfl ?_
  refine g_iconst (v := 4) hC dX0_init_5 rfl ?_
  refine g_newq (N := 4) hC kw_707 (by decide) rfl (Nat.le_of_ble_eq_true rfl) (by first | exact Nat.le_of_ble_eq_true rfl | omega | (simp only [gR]; omega)) (by first | exact Nat.le_of_ble_eq_true rfl | omega | (simp only [gR]; omega)) dX0_init_6 (fun z1 e_z1 => ?_)
  refine g_vF (fun F2 hF2 => ?_)
  have b_z1 : F z1 = g0 := (hcn.2.2.1).g0 e_z1
  obtain ⟨hcn3, hk4⟩ := gCn.newz hcn e_z1 hF2
  have hx5 : ∀ x, x ≠ t → F x ≠ g0 → F2 x = F x := fun x _ q => hk4 x q
  have f6 : F2 z1 = .inl (gO d, 4, .inr (.inr (.inr (.inr (fun _ => none))))) := by rw [hF2]; exact va_up_self _ _ _
  refine g_dup hC dX0_init_9 rfl ?_
  refine g_iconst (v := 0) hC dX0_init_10 rfl ?_
  refine g_new hC nl_X0_9 (by first | exact Nat.le_of_ble_eq_true rfl | omega | (simp only [gR]; omega)) (by first | exact Nat.le_of_ble_eq_true rfl | omega | (simp only [gR]; omega)) dX0_init_11 (fun o7 e_o7 => ?_)
  refine g_vF (fun F8 hF8 => ?_)
  obtain ⟨hcn9, hk10⟩ := gCn.newz hcn3 e_o7 hF8
  have hx11 : ∀ x, x ≠ t → F2 x ≠ g0 → F8 x = F2 x := fun x _ q => hk10 x q
  have f12 : F8 z1 = .inl (gO d, 4, .inr (.inr (.inr (.inr (fun _ => none))))) := (hx11 z1 (gne f6 hcn3.1 gk_ao) (by rw [f6]; exact g0_a)).trans f6
  have f13 : F8 o7 = .inr (4, [.int 0, .null, .int 0]) := by rw [hF8]; exact va_up_self _ _ _
  refine g_dup hC dX0_init_14 rfl ?_
  refine g_sipush (v := 6000) hC dX0_init_15 rfl ?_
  refine g_callIv (As := [.int (nI 6000)]) hC (c_Ints_init X.la d b F8 o7 6000 f13 (by decide) (by decide)) cl_X0_11 rfl rfl (Nat.le_of_ble_eq_true rfl) (gFit_of (Nat.le_of_ble_eq_true rfl) (Nat.le_of_ble_eq_true rfl) (by first | exact Nat.le_of_ble_eq_true rfl | omega | (simp only [gR]; omega)) (by first | exact Nat.le_of_ble_eq_true rfl | omega | (simp only [gR]; omega))) dX0_init_18 (fun F14 p15 => ?_)
  obtain ⟨q16, hcn17, e18, g19, hk20⟩ := gCn.ints hcn3 e_o7 hF8 g0_o p15
  have hx21 : ∀ x, x ≠ t → F2 x ≠ g0 → F14 x = F2 x := fun x _ q => hk20 x q
  have f22 : F14 z1 = .inl (gO d, 4, .inr (.inr (.inr (.inr (fun _ => none))))) := (hx21 z1 (gne f6 hcn3.1 gk_ao) (by rw [f6]; exact g0_a)).trans f6
  refine g_aast hC f22 g19.1 (vp_in_nI (n := 0) (by decide) (by decide)) dX0_init_21 ?_
  refine g_vF (fun F23 hF23 => ?_)
  obtain ⟨hcn24, hk25⟩ := gCn.upz hcn17 f22 b_z1 hF23
  have f26 : F23 z1 = .inl (gO d, 4, .inr (.inr (.inr (.inr (va_up (fun _ => none) 0 (some o7)))))) := by rw [hF23]; exact va_up_self _ _ _
  refine g_dup hC dX0_init_22 rfl ?_
  refine g_iconst (v := 1) hC dX0_init_23 rfl ?_
  refine g_new hC nl_X0_9 (by first | exact Nat.le_of_ble_eq_true rfl | omega | (simp only [gR]; omega)) (by first | exact Nat.le_of_ble_eq_true rfl | omega | (simp only [gR]; omega)) dX0_init_24 (fun o28 e_o28 => ?_)
  refine g_vF (fun F29 hF29 => ?_)
  obtain ⟨hcn30, hk31⟩ := gCn.newz hcn24 e_o28 hF29
  have hx32 : ∀ x, x ≠ t → F23 x ≠ g0 → F29 x = F23 x := fun x _ q => hk31 x q
  have f33 : F29 z1 = .inl (gO d, 4, .inr (.inr (.inr (.inr (va_up (fun _ => none) 0 (some o7)))))) := (hx32 z1 (gne f26 hcn24.1 gk_ao) (by rw [f26]; exact g0_a)).trans f26
  have f34 : F29 o28 = .inr (4, [.int 0, .null, .int 0]) := by rw [hF29]; exact va_up_self _ _ _
  refine g_dup hC dX0_init_27 rfl ?_
  refine g_sipush (v := 6000) hC dX0_init_28 rfl ?_
  refine g_callIv (As := [.int (nI 6000)]) hC (c_Ints_init X.la d b F29 o28 6000 f34 (by decide) (by decide)) cl_X0_11 rfl rfl (Nat.le_of_ble_eq_true rfl) (gFit_of (Nat.le_of_ble_eq_true rfl) (Nat.le_of_ble_eq_true rfl) (by first | exact Nat.le_of_ble_eq_true rfl | omega | (simp only [gR]; omega)) (by first | exact Nat.le_of_ble_eq_true rfl | omega | (simp only [gR]; omega))) dX0_init_31 (fun F35 p36 => ?_)
  obtain ⟨q37, hcn38, e39, g40, hk41⟩ := gCn.ints hcn24 e_o28 hF29 g0_o p36
  have hx42 : ∀ x, x ≠ t → F23 x ≠ g0 → F35 x = F23 x := fun x _ q => hk41 x q
  have f43 : F35 z1 = .inl (gO d, 4, .inr (.inr (.inr (.inr (va_up (fun _ => none) 0 (some o7)))))) := (hx42 z1 (gne f26 hcn24.1 gk_ao) (by rw [f26]; exact g0_a)).trans f26
  refine g_aast hC f43 g40.1 (vp_in_nI (n := 1) (by decide) (by decide)) dX0_init_34 ?_
  refine g_vF (fun F44 hF44 => ?_)
  obtain ⟨hcn45, hk46⟩ := gCn.upz hcn38 f43 b_z1 hF44
  have f47 : F44 z1 = .inl (gO d, 4, .inr (.inr (.inr (.inr (va_up (va_up (fun _ => none) 0 (some o7)) 1 (some o28)))))) := by rw [hF44]; exact va_up_self _ _ _
  refine g_dup hC dX0_init_35 rfl ?_
  refine g_iconst (v := 2) hC dX0_init_36 rfl ?_
  refine g_new hC nl_X0_9 (by first | exact Nat.le_of_ble_eq_true rfl | omega | (simp only [gR]; omega)) (by first | exact Nat.le_of_ble_eq_true rfl | omega | (simp only [gR]; omega)) dX0_init_37 (fun o49 e_o49 => ?_)
  refine g_vF (fun F50 hF50 => ?_)
  obtain ⟨hcn51, hk52⟩ := gCn.newz hcn45 e_o49 hF50
  have hx53 : ∀ x, x ≠ t → F44 x ≠ g0 → F50 x = F44 x := fun x _ q => hk52 x q
  have f54 : F50 z1 = .inl (gO d, 4, .inr (.inr (.inr (.inr (va_up (va_up (fun _ => none) 0 (some o7)) 1 (some o28)))))) := (hx53 z1 (gne f47 hcn45.1 gk_ao) (by rw [f47]; exact g0_a)).trans f47
  have f55 : F50 o49 = .inr (4, [.int 0, .null, .int 0]) := by rw [hF50]; exact va_up_self _ _ _
  refine g_dup hC dX0_init_40 rfl ?_
  refine g_sipush (v := 6000) hC dX0_init_41 rfl ?_
  refine g_callIv (As := [.int (nI 6000)]) hC (c_Ints_init X.la d b F50 o49 6000 f55 (by decide) (by decide)) cl_X0_11 rfl rfl (Nat.le_of_ble_eq_true rfl) (gFit_of (Nat.le_of_ble_eq_true rfl) (Nat.le_of_ble_eq_true rfl) (by first | exact Nat.le_of_ble_eq_true rfl | omega | (simp only [gR]; omega)) (by first | exact Nat.le_of_ble_eq_true rfl | omega | (simp only [gR]; omega))) dX0_init_44 (fun F56 p57 => ?_)
  obtain ⟨q58, hcn59, e60, g61, hk62⟩ := gCn.ints hcn45 e_o49 hF50 g0_o p57
  have hx63 : ∀ x, x ≠ t → F44 x ≠ g0 → F56 x = F44 x := fun x _ q => hk62 x q
  have f64 : F56 z1 = .inl (gO d, 4, .inr (.inr (.inr (.inr (va_up (va_up (fun _ => none) 0 (some o7)) 1 (some o28)))))) := (hx63 z1 (gne f47 hcn45.1 gk_ao) (by rw [f47]; exact g0_a)).trans f47
  refine g_aast hC f64 g61.1 (vp_in_nI (n := 2) (by decide) (by decide)) dX0_init_47 ?_
  refine g_vF (fun F65 hF65 => ?_)
  obtain ⟨hcn66, hk67⟩ := gCn.upz hcn59 f64 b_z1 hF65
  have f68 : F65 z1 = .inl (gO d, 4, .inr (.inr (.inr (.inr (va_up (va_up (va_up (fun _ => none) 0 (some o7)) 1 (some o28)) 2 (some o49)))))) := by rw [hF65]; exact va_up_self _ _ _
  refine g_dup hC dX0_init_48 rfl ?_
  refine g_iconst (v := 3) hC dX0_init_49 rfl ?_
  refine g_new hC nl_X0_9 (by first | exact Nat.le_of_ble_eq_true rfl | omega | (simp only [gR]; omega)) (by first | exact Nat.le_of_ble_eq_true rfl | omega | (simp only [gR]; omega)) dX0_init_50 (fun o70 e_o70 => ?_)
  refine g_vF (fun F71 hF71 => ?_)
  obtain ⟨hcn72, hk73⟩ := gCn.newz hcn66 e_o70 hF71
  have hx74 : ∀ x, x ≠ t → F65 x ≠ g0 → F71 x = F65 x := fun x _ q => hk73 x q
  have f75 : F71 z1 = .inl (gO d, 4, .inr (.inr (.inr (.inr (va_up (va_up (va_up (fun _ => none) 0 (some o7)) 1 (some o28)) 2 (some o49)))))) := (hx74 z1 (gne f68 hcn66.1 gk_ao) (by rw [f68]; exact g0_a)).trans f68
  have f76 : F71 o70 = .inr (4, [.int 0, .null, .int 0]) := by rw [hF71]; exact va_up_self _ _ _
  refine g_dup hC dX0_init_53 rfl ?_
  refine g_sipush (v := 6000) hC dX0_init_54 rfl ?_
  refine g_callIv (As := [.int (nI 6000)]) hC (c_Ints_init X.la d b F71 o70 6000 f76 (by decide) (by decide)) cl_X0_11 rfl rfl (Nat.le_of_ble_eq_true rfl) (gFit_of (Nat.le_of_ble_eq_true rfl) (Nat.le_of_ble_eq_true rfl) (by first | exact Nat.le_of_ble_eq_true rfl | omega | (simp only [gR]; omega)) (by first | exact Nat.le_of_ble_eq_true rfl | omega | (simp only [gR]; omega))) dX0_init_57 (fun F77 p78 => ?_)
  obtain ⟨q79, hcn80, e81, g82, hk83⟩ := gCn.ints hcn66 e_o70 hF71 g0_o p78
  have hx84 : ∀ x, x ≠ t → F65 x ≠ g0 → F77 x = F65 x := fun x _ q => hk83 x q
  have f85 : F77 z1 = .inl (gO d, 4, .inr (.inr (.inr (.inr (va_up (va_up (va_up (fun _ => none) 0 (some o7)) 1 (some o28)) 2 (some o49)))))) := (hx84 z1 (gne f68 hcn66.1 gk_ao) (by rw [f68]; exact g0_a)).trans f68
  refine g_aast hC f85 g82.1 (vp_in_nI (n := 3) (by decide) (by decide)) dX0_init_60 ?_
  refine g_vF (fun F86 hF86 => ?_)
  obtain ⟨hcn87, hk88⟩ := gCn.upz hcn80 f85 b_z1 hF86
  have f89 : F86 z1 = .inl (gO d, 4, .inr (.inr (.inr (.inr (va_up (va_up (va_up (va_up (fun _ => none) 0 (some o7)) 1 (some o28)) 2 (some o49)) 3 (some o70)))))) := by rw [hF86]; exact va_up_self _ _ _
  refine g_putC hC hcn87 fl_X0_14 rfl rfl (Nat.le_of_ble_eq_true rfl) rfl dX0_init_61 (fun F91 hcn92 hx93 => ?_)
  have hx94 : ∀ x, x ≠ t → F86 x ≠ g0 → F91 x = F86 x := fun x q _ => hx93 x q
  have f95 : F91 z1 = .inl (gO d, 4, .inr (.inr (.inr (.inr (va_up (va_up (va_up (va_up (fun _ => none) 0 (some o7)) 1 (some o28)) 2 (some o49)) 3 (some o70)))))) := (hx94 z1 (gne f89 hcn87.1 gk_ao) (by rw [f89]; exact g0_a)).trans f89
  refine g_aload_n hC dX0_init_64 rfl ?_
  refine g_iconst (v := 4) hC dX0_init_65 rfl ?_
  refine g_newa (atype := .int) (N := 4) (a0 := (4, .inl (fun _ => 0))) hC 0 kw_288 rfl (by decide) (fun _ => rfl) (by decide) rfl (Nat.le_of_ble_eq_true rfl) (by first | exact Nat.le_of_ble_eq_true rfl | omega | (simp only [gR]; omega)) (by first | exact Nat.le_of_ble_eq_true rfl | omega | (simp only [gR]; omega)) dX0_init_66 (fun q96 e_q96 => ?_)
  refine g_vF (fun F97 hF97 => ?_)
  obtain ⟨hcn98, hk99⟩ := gCn.arr hcn92 e_q96 hF97
  have hx100 : ∀ x, x ≠ t → F91 x ≠ g0 → F97 x = F91 x := fun x _ q => hk99 x q
  have f101 : F97 z1 = .inl (gO d, 4, .inr (.inr (.inr (.inr (va_up (va_up (va_up (va_up (fun _ => none) 0 (some o7)) 1 (some o28)) 2 (some o49)) 3 (some o70)))))) := (hx100 z1 (gne f95 hcn92.1 gk_ao) (by rw [f95]; exact g0_a)).trans f95
  refine g_putC hC hcn98 fl_X0_20 rfl rfl (Nat.le_of_ble_eq_true rfl) rfl dX0_init_68 (fun F102 hcn103 hx104 => ?_)
  have hx105 : ∀ x, x ≠ t → F97 x ≠ g0 → F102 x = F97 x := fun x q _ => hx104 x q
  have f106 : F102 z1 = .inl (gO d, 4, .inr (.inr (.inr (.inr (va_up (va_up (va_up (va_up (fun _ => none) 0 (some o7)) 1 (some o28)) 2 (some o49)) 3 (some o70)))))) := (hx105 z1 (gne f101 hcn98.1 gk_ao) (by rw [f101]; exact g0_a)).trans f101
  refine g_aload_n hC dX0_init_71 rfl ?_
  refine g_iconst (v := 2) hC dX0_init_72 rfl ?_
  refine g_newq (N := 2) hC kw_707 (by decide) rfl (Nat.le_of_ble_eq_true rfl) (by first | exact Nat.le_of_ble_eq_true rfl | omega | (simp only [gR]; omega)) (by first | exact Nat.le_of_ble_eq_true rfl | omega | (simp only [gR]; omega)) dX0_init_73 (fun z107 e_z107 => ?_)
  refine g_vF (fun F108 hF108 => ?_)
  have b_z107 : F z107 = g0 := (hcn103.2.2.1).g0 e_z107
  obtain ⟨hcn109, hk110⟩ := gCn.newz hcn103 e_z107 hF108
  have hx111 : ∀ x, x ≠ t → F102 x ≠ g0 → F108 x = F102 x := fun x _ q => hk110 x q
  have f112 : F108 z1 = .inl (gO d, 4, .inr (.inr (.inr (.inr (va_up (va_up (va_up (va_up (fun _ => none) 0 (some o7)) 1 (some o28)) 2 (some o49)) 3 (some o70)))))) := (hx111 z1 (gne f106 hcn103.1 gk_ao) (by rw [f106]; exact g0_a)).trans f106
  have f113 : F108 z107 = .inl (gO d, 2, .inr (.inr (.inr (.inr (fun _ => none))))) := by rw [hF108]; exact va_up_self _ _ _
  refine g_dup hC dX0_init_76 rfl ?_
  refine g_iconst (v := 0) hC dX0_init_77 rfl ?_
  refine g_new hC nl_X0_9 (by first | exact Nat.le_of_ble_eq_true rfl | omega | (simp only [gR]; omega)) (by first | exact Nat.le_of_ble_eq_true rfl | omega | (simp only [gR]; omega)) dX0_init_78 (fun o114 e_o114 => ?_)
  refine g_vF (fun F115 hF115 => ?_)
  obtain ⟨hcn116, hk117⟩ := gCn.newz hcn109 e_o114 hF115
  have hx118 : ∀ x, x ≠ t → F108 x ≠ g0 → F115 x = F108 x := fun x _ q => hk117 x q
  have f119 : F115 z1 = .inl (gO d, 4, .inr (.inr (.inr (.inr (va_up (va_up (va_up (va_up (fun _ => none) 0 (some o7)) 1 (some o28)) 2 (some o49)) 3 (some o70)))))) := (hx118 z1 (gne f112 hcn109.1 gk_ao) (by rw [f112]; exact g0_a)).trans f112
  have f120 : F115 z107 = .inl (gO d, 2, .inr (.inr (.inr (.inr (fun _ => none))))) := (hx118 z107 (gne f113 hcn109.1 gk_ao) (by rw [f113]; exact g0_a)).trans f113
  have f121 : F115 o114 = .inr (4, [.int 0, .null, .int 0]) := by rw [hF115]; exact va_up_self _ _ _
  refine g_dup hC dX0_init_81 rfl ?_
  refine g_sipush (v := 4096) hC dX0_init_82 rfl ?_
  refine g_callIv (As := [.int (nI 4096)]) hC (c_Ints_init X.la d b F115 o114 4096 f121 (by decide) (by decide)) cl_X0_11 rfl rfl (Nat.le_of_ble_eq_true rfl) (gFit_of (Nat.le_of_ble_eq_true rfl) (Nat.le_of_ble_eq_true rfl) (by first | exact Nat.le_of_ble_eq_true rfl | omega | (simp only [gR]; omega)) (by first | exact Nat.le_of_ble_eq_true rfl | omega | (simp only [gR]; omega))) dX0_init_85 (fun F122 p123 => ?_)
  obtain ⟨q124, hcn125, e126, g127, hk128⟩ := gCn.ints hcn109 e_o114 hF115 g0_o p123
  have hx129 : ∀ x, x ≠ t → F108 x ≠ g0 → F122 x = F108 x := fun x _ q => hk128 x q
  have f130 : F122 z1 = .inl (gO d, 4, .inr (.inr (.inr (.inr (va_up (va_up (va_up (va_up (fun _ => none) 0 (some o7)) 1 (some o28)) 2 (some o49)) 3 (some o70)))))) := (hx129 z1 (gne f112 hcn109.1 gk_ao) (by rw [f112]; exact g0_a)).trans f112
  have f131 : F122 z107 = .inl (gO d, 2, .inr (.inr (.inr (.inr (fun _ => none))))) := (hx129 z107 (gne f113 hcn109.1 gk_ao) (by rw [f113]; exact g0_a)).trans f113
  refine g_aast hC f131 g127.1 (vp_in_nI (n := 0) (by decide) (by decide)) dX0_init_88 ?_
  refine g_vF (fun F132 hF132 => ?_)
  obtain ⟨hcn133, hk134⟩ := gCn.upz hcn125 f131 b_z107 hF132
  have f135 : F132 z1 = .inl (gO d, 4, .inr (.inr (.inr (.inr (va_up (va_up (va_up (va_up (fun _ => none) 0 (some o7)) 1 (some o28)) 2 (some o49)) 3 (some o70)))))) := (hk134 z1 (gne f130 f131 (by intro z; cases z))).trans f130
  have f136 : F132 z107 = .inl (gO d, 2, .inr (.inr (.inr (.inr (va_up (fun _ => none) 0 (some o114)))))) := by rw [hF132]; exact va_up_self _ _ _
  refine g_dup hC dX0_init_89 rfl ?_
  refine g_iconst (v := 1) hC dX0_init_90 rfl ?_
  refine g_new hC nl_X0_9 (by first | exact Nat.le_of_ble_eq_true rfl | omega | (simp only [gR]; omega)) (by first | exact Nat.le_of_ble_eq_true rfl | omega | (simp only [gR]; omega)) dX0_init_91 (fun o138 e_o138 => ?_)
  refine g_vF (fun F139 hF139 => ?_)
  obtain ⟨hcn140, hk141⟩ := gCn.newz hcn133 e_o138 hF139
  have hx142 : ∀ x, x ≠ t → F132 x ≠ g0 → F139 x = F132 x := fun x _ q => hk141 x q
  have f143 : F139 z1 = .inl (gO d, 4, .inr (.inr (.inr (.inr (va_up (va_up (va_up (va_up (fun _ => none) 0 (some o7)) 1 (some o28)) 2 (some o49)) 3 (some o70)))))) := (hx142 z1 (gne f135 hcn133.1 gk_ao) (by rw [f135]; exact g0_a)).trans f135
  have f144 : F139 z107 = .inl (gO d, 2, .inr (.inr (.inr (.inr (va_up (fun _ => none) 0 (some o114)))))) := (hx142 z107 (gne f136 hcn133.1 gk_ao) (by rw [f136]; exact g0_a)).trans f136
  have f145 : F139 o138 = .inr (4, [.int 0, .null, .int 0]) := by rw [hF139]; exact va_up_self _ _ _
  refine g_dup hC dX0_init_94 rfl ?_
  refine g_sipush (v := 4096) hC dX0_init_95 rfl ?_
  refine g_callIv (As := [.int (nI 4096)]) hC (c_Ints_init X.la d b F139 o138 4096 f145 (by decide) (by decide)) cl_X0_11 rfl rfl (Nat.le_of_ble_eq_true rfl) (gFit_of (Nat.le_of_ble_eq_true rfl) (Nat.le_of_ble_eq_true rfl) (by first | exact Nat.le_of_ble_eq_true rfl | omega | (simp only [gR]; omega)) (by first | exact Nat.le_of_ble_eq_true rfl | omega | (simp only [gR]; omega))) dX0_init_98 (fun F146 p147 => ?_)
  obtain ⟨q148, hcn149, e150, g151, hk152⟩ := gCn.ints hcn133 e_o138 hF139 g0_o p147
  have hx153 : ∀ x, x ≠ t → F132 x ≠ g0 → F146 x = F132 x := fun x _ q => hk152 x q
  have f154 : F146 z1 = .inl (gO d, 4, .inr (.inr (.inr (.inr (va_up (va_up (va_up (va_up (fun _ => none) 0 (some o7)) 1 (some o28)) 2 (some o49)) 3 (some o70)))))) := (hx153 z1 (gne f135 hcn133.1 gk_ao) (by rw [f135]; exact g0_a)).trans f135
  have f155 : F146 z107 = .inl (gO d, 2, .inr (.inr (.inr (.inr (va_up (fun _ => none) 0 (some o114)))))) := (hx153 z107 (gne f136 hcn133.1 gk_ao) (by rw [f136]; exact g0_a)).trans f136
  refine g_aast hC f155 g151.1 (vp_in_nI (n := 1) (by decide) (by decide)) dX0_init_101 ?_
  refine g_vF (fun F156 hF156 => ?_)
  obtain ⟨hcn157, hk158⟩ := gCn.upz hcn149 f155 b_z107 hF156
  have f159 : F156 z1 = .inl (gO d, 4, .inr (.inr (.inr (.inr (va_up (va_up (va_up (va_up (fun _ => none) 0 (some o7)) 1 (some o28)) 2 (some o49)) 3 (some o70)))))) := (hk158 z1 (gne f154 f155 (by intro z; cases z))).trans f154
  have f160 : F156 z107 = .inl (gO d, 2, .inr (.inr (.inr (.inr (va_up (va_up (fun _ => none) 0 (some o114)) 1 (some o138)))))) := by rw [hF156]; exact va_up_self _ _ _
  refine g_putC hC hcn157 fl_X0_24 rfl rfl (Nat.le_of_ble_eq_true rfl) rfl dX0_init_102 (fun F162 hcn163 hx164 => ?_)
  have hx165 : ∀ x, x ≠ t → F156 x ≠ g0 → F162 x = F156 x := fun x q _ => hx164 x q
  have f166 : F162 z1 = .inl (gO d, 4, .inr (.inr (.inr (.inr (va_up (va_up (va_up (va_up (fun _ => none) 0 (some o7)) 1 (some o28)) 2 (some o49)) 3 (some o70)))))) := (hx165 z1 (gne f159 hcn157.1 gk_ao) (by rw [f159]; exact g0_a)).trans f159
  have f167 : F162 z107 = .inl (gO d, 2, .inr (.inr (.inr (.inr (va_up (va_up (fun _ => none) 0 (some o114)) 1 (some o138)))))) := (hx165 z107 (gne f160 hcn157.1 gk_ao) (by rw [f160]; exact g0_a)).trans f160
  refine g_aload_n hC dX0_init_105 rfl ?_
  refine g_iconst (v := 0) hC dX0_init_106 rfl ?_
  refine g_putC hC hcn163 fl_X0_27 rfl rfl (Nat.le_of_ble_eq_true rfl) rfl dX0_init_107 (fun F168 hcn169 hx170 => ?_)
  have hx171 : ∀ x, x ≠ t → F162 x ≠ g0 → F168 x = F162 x := fun x q _ => hx170 x q
  have f172 : F168 z1 = .inl (gO d, 4, .inr (.inr (.inr (.inr (va_up (va_up (va_up (va_up (fun _ => none) 0 (some o7)) 1 (some o28)) 2 (some o49)) 3 (some o70)))))) := (hx171 z1 (gne f166 hcn163.1 gk_ao) (by rw [f166]; exact g0_a)).trans f166
  have f173 : F168 z107 = .inl (gO d, 2, .inr (.inr (.inr (.inr (va_up (va_up (fun _ => none) 0 (some o114)) 1 (some o138)))))) := (hx171 z107 (gne f167 hcn163.1 gk_ao) (by rw [f167]; exact g0_a)).trans f167
  refine g_aload_n hC dX0_init_110 rfl ?_
  refine g_iconst (v := 0) hC dX0_init_111 rfl ?_
  refine g_putC hC hcn169 fl_X0_31 rfl rfl (Nat.le_of_ble_eq_true rfl) rfl dX0_init_112 (fun F174 hcn175 hx176 => ?_)
  have hx177 : ∀ x, x ≠ t → F168 x ≠ g0 → F174 x = F168 x := fun x q _ => hx176 x q
  have f178 : F174 z1 = .inl (gO d, 4, .inr (.inr (.inr (.inr (va_up (va_up (va_up (va_up (fun _ => none) 0 (some o7)) 1 (some o28)) 2 (some o49)) 3 (some o70)))))) := (hx177 z1 (gne f172 hcn169.1 gk_ao) (by rw [f172]; exact g0_a)).trans f172
  have f179 : F174 z107 = .inl (gO d, 2, .inr (.inr (.inr (.inr (va_up (va_up (fun _ => none) 0 (some o114)) 1 (some o138)))))) := (hx177 z107 (gne f173 hcn169.1 gk_ao) (by rw [f173]; exact g0_a)).trans f173
  exact g_vret hC ⟨o7, q16, o28, q37, o49, q58, o70, q79, q96, o114, q124, o138, q148, z1, z107, hcn175, f178, f179⟩ (by first | exact Nat.le_of_ble_eq_true rfl | omega | (simp only [gR]; omega)) (by first | exact Nat.le_of_ble_eq_true rfl | omega | (simp only [gR]; omega)) dX0_init_115
end
