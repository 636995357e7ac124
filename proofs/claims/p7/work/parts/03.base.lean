/-! THE LAYER OF ONE POOL. The whole world of a claim is one map F from addresses to cells (gH d b F H: what F tells lies in H, from b on, and nothing that F doesn't tell is told); a walk's state is F, the room used, pc, locals by place, the stack (gG); a contract speaks of F alone (gMi, gMv, ..). -/
abbrev gX : Type := Program × Launch × Env × Room × State × MethodId × Array Value × List Frame × Method × Code
abbrev gX.pr (X : gX) : Program := X.1
abbrev gX.la (X : gX) : Launch := X.2.1
abbrev gX.en (X : gX) : Env := X.2.2.1
abbrev gX.rm (X : gX) : Room := X.2.2.2.1
abbrev gX.st (X : gX) : State := X.2.2.2.2.1
abbrev gX.mi (X : gX) : MethodId := X.2.2.2.2.2.1
abbrev gX.ar (X : gX) : Array Value := X.2.2.2.2.2.2.1
abbrev gX.be (X : gX) : List Frame := X.2.2.2.2.2.2.2.1
abbrev gX.me (X : gX) : Method := X.2.2.2.2.2.2.2.2.1
abbrev gX.co (X : gX) : Code := X.2.2.2.2.2.2.2.2.2
abbrev gW (X : gX) (H : Heap) (locs : List Loc) (k n : Nat) (Q : State → Prop) (g : JFrame) : Prop := W X.pr X.la X.en X.rm X.st X.mi X.ar X.be X.me X.co H locs k n Q g
/-- what is fixed for a claim: the classes' numbers and slots; the array classes' numbers (int, byte, boolean, long, Ints); the String constants' addresses and those of their bytes -/
abbrev gD : Type := va_G × (ClassId × ClassId × ClassId × ClassId × ClassId) × (Nat → Nat) × (Nat → Nat)
abbrev gI (d : gD) : ClassId := d.2.1.1
abbrev gY (d : gD) : ClassId := d.2.1.2.1
abbrev gZ (d : gD) : ClassId := d.2.1.2.2.1
abbrev gJ (d : gD) : ClassId := d.2.1.2.2.2.1
abbrev gO (d : gD) : ClassId := d.2.1.2.2.2.2
abbrev gtys (d : gD) : List (ClassId × FieldType) := [(gI d, .int), (gY d, .byte), (gZ d, .boolean), (gJ d, .long), (gO d, .object RX4)]
def gK (d : gD) (U : State) : Prop := va_K d.1 vwCl (gtys d) U
abbrev gM : Type := Nat → va_E
/-- where nothing is told -/
def g0 : va_E := .inr (0, [])
def gH (d : gD) (b : Nat) (F : gM) (H : Heap) : Prop := ∃ L : List Nat, va_P d.1 vwCl (va_pl L F) H ∧ va_D (fun q => b ≤ q) (va_pl L F) ∧ ∀ a, a ∉ L → F a = g0
def gL (lv : List (Option Value)) (ls : Array Slot) : Prop := ls.size = lv.length ∧ lv_wf ls ∧ ∀ (i : Nat) (v : Value), lv[i]? = some (some v) → ls[i]? = some (.val v)
/-- THE JUDGEMENT -/
def gG (X : gX) (d : gD) (b : Nat) (Q : State → Prop) (F : gM) (k n pc : Nat) (lv : List (Option Value)) (st : List Value) : Prop :=
  ∀ (H : Heap) (locs : List Loc) (ls : Array Slot), gH d b F H → va_S (fun q => b ≤ q) X.st.heap H locs → gL lv ls → gW X H locs k n Q (F0 X.mi pc ls st)

theorem gH.mem {d : gD} {b : Nat} {F : gM} {H : Heap} {L : List Nat} (h : ∀ a, a ∉ L → F a = g0) {a : Nat} (hn : F a ≠ g0) : a ∈ L := Classical.not_not.mp fun q => hn (h a q)
theorem g0_o {ci : Nat} {v : Value} {fs : List Value} : (.inr (ci, v :: fs) : va_E) ≠ g0 := fun h => by cases h
theorem g0_a {x : ClassId × vp_A} : (.inl x : va_E) ≠ g0 := fun h => by cases h
theorem gH.at {d : gD} {b : Nat} {F : gM} {H : Heap} {L : List Nat} (h : ∀ a, a ∉ L → F a = g0) {a : Nat} {e : va_E} (he : F a = e) (hn : e ≠ g0) : ∃ k : Nat, a ∈ L ∧ (va_pl L F)[k]? = some (a, e) := by
  have hm : a ∈ L := gH.mem (d := d) (b := b) (H := H) h (by rw [he]; exact hn)
  obtain ⟨k, hk⟩ := va_pl_get (X := []) (f := F) hm
  rw [List.nil_append] at hk
  exact ⟨k, hm, by rw [hk, he]⟩
theorem gH.lt {d : gD} {b : Nat} {F : gM} {H : Heap} (h : gH d b F H) {a : Nat} (hn : F a ≠ g0) : a < H.size := by
  obtain ⟨L, hP, hD, h0⟩ := h
  exact va_pl_lt (X := []) (by rw [List.nil_append]; exact hP) (gH.mem (d := d) (b := b) (H := H) h0 hn)
theorem gH.ge {d : gD} {b : Nat} {F : gM} {H : Heap} (h : gH d b F H) {a : Nat} (hn : F a ≠ g0) : b ≤ a := by
  obtain ⟨L, hP, hD, h0⟩ := h
  obtain ⟨k, hm, hk⟩ := gH.at (d := d) (b := b) (H := H) h0 (rfl : F a = F a) hn
  exact hD.2 k _ hk
/-- a cell is set -/
theorem gH.set {d : gD} {b : Nat} {F : gM} {H1 : Heap} {L : List Nat} {a k : Nat} {e0 e : va_E} (h0 : ∀ a, a ∉ L → F a = g0) (hm : a ∈ L) (hD : va_D (fun q => b ≤ q) (va_pl L F)) (hk : (va_pl L F)[k]? = some (a, e0)) (he : F a = e0)
    (hP1 : va_P d.1 vwCl ((va_pl L F).set k (a, e)) H1) (hD1 : va_D (fun q => b ≤ q) ((va_pl L F).set k (a, e))) : gH d b (va_up F a e) H1 := by
  have hs : (va_pl L F).set k (a, e) = va_pl L (va_up F a e) := by
    have h := va_pl_set (A := fun q => b ≤ q) (X := []) (L := L) (f := F) (a := a) (k := k) (e := e) (by rw [List.nil_append]; exact hD) hm (by rw [List.nil_append, hk, he])
    rw [List.nil_append, List.nil_append] at h
    exact h
  rw [hs] at hP1 hD1
  exact ⟨L, hP1, hD1, fun q hq => by rw [va_up_ne _ _ (fun z => hq (by rw [z]; exact hm))]; exact h0 q hq⟩
/-- a cell is new -/
theorem gH.push {d : gD} {b : Nat} {F : gM} {H1 : Heap} {L : List Nat} {q : Nat} {e : va_E} (h0 : ∀ a, a ∉ L → F a = g0)
    (hP1 : va_P d.1 vwCl (va_pl L F ++ [(q, e)]) H1) (hD1 : va_D (fun q => b ≤ q) (va_pl L F ++ [(q, e)])) : F q = g0 ∧ gH d b (va_up F q e) H1 := by
  have hq : q ∉ L := va_pl_fresh2 (A := fun q => b ≤ q) (X := []) (f := F) (e := e) (by rw [List.nil_append]; exact hD1)
  rw [va_pl_push hq] at hP1 hD1
  refine ⟨h0 q hq, L ++ [q], hP1, hD1, fun a ha => ?_⟩
  rw [List.mem_append, List.mem_singleton, not_or] at ha
  rw [va_up_ne _ _ ha.2]
  exact h0 a ha.1

-- locals by place
def gA (lv : List (Option Value)) : List (Nat × Value) := (List.range lv.length).filterMap (fun i => (lv[i]?.join).map (fun v => (i, v)))
theorem gA_mem {lv : List (Option Value)} {q : Nat × Value} (h : q ∈ gA lv) : lv[q.1]? = some (some q.2) := by
  obtain ⟨i, -, hi⟩ := List.mem_filterMap.mp h
  cases hj : lv[i]?.join with
  | none => rw [hj] at hi; cases hi
  | some v =>
    rw [hj] at hi
    cases hi
    exact Option.join_eq_some_iff.mp hj
theorem gA_of {lv : List (Option Value)} {i : Nat} {v : Value} (h : lv[i]? = some (some v)) : (i, v) ∈ gA lv :=
  List.mem_filterMap.mpr ⟨i, List.mem_range.mpr (List.getElem?_eq_some_iff.mp h).1, by rw [h]; rfl⟩
theorem gL.has {lv : List (Option Value)} {ls : Array Slot} (h : gL lv ls) : lv_has ls lv.length (gA lv) := ⟨h.1, h.2.1, fun q hq => h.2.2 q.1 q.2 (gA_mem hq)⟩
theorem gL.at {lv : List (Option Value)} {ls : Array Slot} (h : gL lv ls) {i : Nat} {v : Value} (hv : lv[i]? = some (some v)) : ls[i]? = some (.val v) := h.2.2 i v hv
def gOk (lv : List (Option Value)) : Nat → Bool
  | 0 => true
  | j + 1 => match lv[j]? with
    | some (some w) => w.category != 2
    | _ => true
theorem gOk_ne {lv : List (Option Value)} {i j : Nat} {w : Value} (h : gOk lv i = true) (hj : j + 1 = i) (hw : lv[j]? = some (some w)) : (w.category == 2) = false := by
  subst hj
  simp only [gOk, hw] at h
  simpa using h
theorem gL.st1 {lv : List (Option Value)} {ls : Array Slot} {i : Nat} {v : Value} (hok : gOk lv i = true) (h : lv_has ls lv.length ((i, v) :: (gA lv).filter (fun q => !(q.1 == i) && !(q.1 + 1 == i && q.2.category == 2)))) : gL (lv.set i (some v)) ls := by
  refine ⟨by rw [List.length_set]; exact h.1, h.2.1, fun j w hw => ?_⟩
  by_cases hj : i = j
  · subst hj
    rw [List.getElem?_set_self'] at hw
    cases hl : lv[i]? with
    | none => rw [hl] at hw; cases hw
    | some z => rw [hl] at hw; cases hw; exact h.2.2 (i, v) List.mem_cons_self
  · rw [List.getElem?_set_ne hj] at hw
    refine h.2.2 (j, w) (List.mem_cons_of_mem _ (List.mem_filter.mpr ⟨gA_of hw, ?_⟩))
    have h1 : (j == i) = false := by simpa using fun q => hj q.symm
    by_cases h2 : j + 1 = i
    · simp [h1, gOk_ne hok h2 hw]
    · have h3 : (j + 1 == i) = false := by simpa using h2
      simp [h1, h3]
theorem gL.st2 {lv : List (Option Value)} {ls : Array Slot} {i : Nat} {v : Value} (hok : gOk lv i = true) (h : lv_has ls lv.length ((i, v) :: (gA lv).filter (fun q => !(q.1 == i) && (!(q.1 == i + 1) && !(q.1 + 1 == i && q.2.category == 2))))) : gL ((lv.set i (some v)).set (i + 1) none) ls := by
  refine ⟨by rw [List.length_set, List.length_set]; exact h.1, h.2.1, fun j w hw => ?_⟩
  by_cases hj2 : i + 1 = j
  · subst hj2
    rw [List.getElem?_set_self'] at hw
    cases hl : (lv.set i (some v))[i + 1]? with
    | none => rw [hl] at hw; cases hw
    | some z => rw [hl] at hw; cases hw
  · rw [List.getElem?_set_ne hj2] at hw
    by_cases hj : i = j
    · subst hj
      rw [List.getElem?_set_self'] at hw
      cases hl : lv[i]? with
      | none => rw [hl] at hw; cases hw
      | some z => rw [hl] at hw; cases hw; exact h.2.2 (i, v) List.mem_cons_self
    · rw [List.getElem?_set_ne hj] at hw
      refine h.2.2 (j, w) (List.mem_cons_of_mem _ (List.mem_filter.mpr ⟨gA_of hw, ?_⟩))
      have h1 : (j == i) = false := by simpa using fun q => hj q.symm
      have h4 : (j == i + 1) = false := by simpa using fun q => hj2 q.symm
      by_cases h2 : j + 1 = i
      · simp [h1, h4, gOk_ne hok h2 hw]
      · have h3 : (j + 1 == i) = false := by simpa using h2
        simp [h1, h3, h4]
theorem gL.sub {lv lv' : List (Option Value)} {ls : Array Slot} (h : gL lv ls) (hs : lv'.length = lv.length) (hi : ∀ (i : Nat) (v : Value), lv'[i]? = some (some v) → lv[i]? = some (some v)) : gL lv' ls := ⟨h.1.trans hs.symm, h.2.1, fun i v hv => h.2.2 i v (hi i v hv)⟩
/-- locals let go -/
def gSubB : List (Option Value) → List (Option Value) → Prop
  | [], [] => True
  | none :: r, _ :: r' => gSubB r r'
  | some v :: r, w :: r' => w = some v ∧ gSubB r r'
  | _, _ => False
theorem gSubB.ok : ∀ {lv' lv : List (Option Value)}, gSubB lv' lv → lv'.length = lv.length ∧ ∀ (i : Nat) (v : Value), lv'[i]? = some (some v) → lv[i]? = some (some v)
  | [], [], _ => ⟨rfl, fun _ _ h => h⟩
  | none :: r, w :: r', h => by
    obtain ⟨h1, h2⟩ := gSubB.ok (lv' := r) (lv := r') h
    refine ⟨by simp [h1], fun i v hv => ?_⟩
    cases i with
    | zero => cases hv
    | succ i => exact h2 i v hv
  | some v :: r, w :: r', h => by
    obtain ⟨h1, h2⟩ := gSubB.ok (lv' := r) (lv := r') h.2
    refine ⟨by simp [h1], fun i u hu => ?_⟩
    cases i with
    | zero => rw [h.1]; exact hu
    | succ i => exact h2 i u hu

-- what a claim's world has beside its cells: nest mates, String constants, statics
abbrev gNs : List (String × Nat × MethodName × String) := [("WordTongue", 20, ⟨"WordTongue$Program","<init>","()V"⟩, "WordTongue"), ("WordTongue", 27, ⟨"WordTongue$Tree","<init>","()V"⟩, "WordTongue"), ("WordTongue", 61, ⟨"WordTongue$Channels","<init>","()V"⟩, "WordTongue"), ("WordTongue$Machine", 11, ⟨"WordTongue$Heap","<init>","()V"⟩, "WordTongue"), ("WordTongue$Parser", 246, ⟨"WordTongue","power","(I)I"⟩, "WordTongue"), ("WordTongue$Parser", 252, ⟨"WordTongue","isRelation","(I)Z"⟩, "WordTongue"), ("WordTongue$Constants", 84, ⟨"WordTongue","isRelation","(I)Z"⟩, "WordTongue"), ("WordTongue$Constants", 117, ⟨"WordTongue","holds","(III)Z"⟩, "WordTongue"), ("WordTongue$Constants", 121, ⟨"WordTongue","isDivision","(I)Z"⟩, "WordTongue"), ("WordTongue$Constants", 124, ⟨"WordTongue","worked","(III)I"⟩, "WordTongue"), ("WordTongue$Coder", 304, ⟨"WordTongue","isRelation","(I)Z"⟩, "WordTongue"), ("WordTongue$Machine", 178, ⟨"WordTongue","holds","(III)Z"⟩, "WordTongue"), ("WordTongue$Machine", 182, ⟨"WordTongue","isDivision","(I)Z"⟩, "WordTongue"), ("WordTongue$Machine", 185, ⟨"WordTongue","isRelation","(I)Z"⟩, "WordTongue"), ("WordTongue$Machine", 188, ⟨"WordTongue","worked","(III)I"⟩, "WordTongue")]
abbrev gCs : List (String × String) := [("[I", "java/lang/Cloneable"), ("java/lang/IllegalStateException", "java/lang/IllegalStateException"), ("java/util/NoSuchElementException", "java/util/NoSuchElementException"), ("WordTongue", "java/lang/Object"), ("WordTongue$Ints", "java/lang/Object"), ("WordTongue$Program", "java/lang/Object"), ("WordTongue$Tree", "java/lang/Object"), ("WordTongue$Scanner", "java/lang/Object"), ("WordTongue$Parser", "java/lang/Object"), ("WordTongue$Coder", "java/lang/Object"), ("WordTongue$Scope", "java/lang/Object"), ("WordTongue$Constants", "java/lang/Object"), ("WordTongue$Channels", "java/lang/Object"), ("WordTongue$Machine", "java/lang/Object"), ("WordTongue$Heap", "java/lang/Object"), ("WordTongueModel", "java/lang/Object"), ("java/lang/IllegalStateException", "java/lang/Object"), ("java/util/NoSuchElementException", "java/lang/Object"), ("java/lang/Throwable", "java/lang/Object"), ("java/lang/String", "java/lang/Object")]
abbrev gDs : List MethodName := [⟨"java/lang/RuntimeException","<init>","()V"⟩, ⟨"java/lang/RuntimeException","<init>","(Ljava/lang/String;)V"⟩, ⟨"java/lang/Exception","<init>","()V"⟩, ⟨"java/lang/Exception","<init>","(Ljava/lang/String;)V"⟩, ⟨"java/lang/Throwable","<init>","()V"⟩, ⟨"java/lang/Throwable","<init>","(Ljava/lang/String;)V"⟩]
abbrev gSr : List (String × Nat × String) := [("WordTongue$Scanner", 50, "TRUE FALSE VALOF TABLE IF UNLESS TEST WHILE UNTIL FOR SWITCHON CASE DEFAULT BREAK LOOP ENDCASE RETURN RESULTIS FINISH GOTO LET GLOBAL MANIFEST STATIC "), ("WordTongue$Scanner", 56, "GET AND BE VEC THEN DO OR ELSE TO BY INTO REPEAT REPEATWHILE REPEATUNTIL EQV NEQV REM NOT "), ("WordTongue$Scanner", 58, "WRITEN WRITES WRCH NEWLINE RDCH STOP ABS UNRDCH SELECTINPUT SELECTOUTPUT REWIND GETVEC FREEVEC APTOVEC MULDIV WRITED WRITEHEX READN "), ("WordTongue$Scanner", 60, "START "), ("WordTongue$Parser", 92, "a token can't stand there")]
def gByt : List (List Int32) := [[84, 82, 85, 69, 32, 70, 65, 76, 83, 69, 32, 86, 65, 76, 79, 70, 32, 84, 65, 66, 76, 69, 32, 73, 70, 32, 85, 78, 76, 69, 83, 83, 32, 84, 69, 83, 84, 32, 87, 72, 73, 76, 69, 32, 85, 78, 84, 73, 76, 32, 70, 79, 82, 32, 83, 87, 73, 84, 67, 72, 79, 78, 32, 67, 65, 83, 69, 32, 68, 69, 70, 65, 85, 76, 84, 32, 66, 82, 69, 65, 75, 32, 76, 79, 79, 80, 32, 69, 78, 68, 67, 65, 83, 69, 32, 82, 69, 84, 85, 82, 78, 32, 82, 69, 83, 85, 76, 84, 73, 83, 32, 70, 73, 78, 73, 83, 72, 32, 71, 79, 84, 79, 32, 76, 69, 84, 32, 71, 76, 79, 66, 65, 76, 32, 77, 65, 78, 73, 70, 69, 83, 84, 32, 83, 84, 65, 84, 73, 67, 32], [71, 69, 84, 32, 65, 78, 68, 32, 66, 69, 32, 86, 69, 67, 32, 84, 72, 69, 78, 32, 68, 79, 32, 79, 82, 32, 69, 76, 83, 69, 32, 84, 79, 32, 66, 89, 32, 73, 78, 84, 79, 32, 82, 69, 80, 69, 65, 84, 32, 82, 69, 80, 69, 65, 84, 87, 72, 73, 76, 69, 32, 82, 69, 80, 69, 65, 84, 85, 78, 84, 73, 76, 32, 69, 81, 86, 32, 78, 69, 81, 86, 32, 82, 69, 77, 32, 78, 79, 84, 32], [87, 82, 73, 84, 69, 78, 32, 87, 82, 73, 84, 69, 83, 32, 87, 82, 67, 72, 32, 78, 69, 87, 76, 73, 78, 69, 32, 82, 68, 67, 72, 32, 83, 84, 79, 80, 32, 65, 66, 83, 32, 85, 78, 82, 68, 67, 72, 32, 83, 69, 76, 69, 67, 84, 73, 78, 80, 85, 84, 32, 83, 69, 76, 69, 67, 84, 79, 85, 84, 80, 85, 84, 32, 82, 69, 87, 73, 78, 68, 32, 71, 69, 84, 86, 69, 67, 32, 70, 82, 69, 69, 86, 69, 67, 32, 65, 80, 84, 79, 86, 69, 67, 32, 77, 85, 76, 68, 73, 86, 32, 87, 82, 73, 84, 69, 68, 32, 87, 82, 73, 84, 69, 72, 69, 88, 32, 82, 69, 65, 68, 78, 32], [83, 84, 65, 82, 84, 32], [97, 32, 116, 111, 107, 101, 110, 32, 99, 97, 110, 39, 116, 32, 115, 116, 97, 110, 100, 32, 116, 104, 101, 114, 101]]
def gLen : List Nat := [150, 90, 132, 6, 25]
def gE (d : gD) (b : Nat) (U : State) : Prop :=
  (∀ w ∈ gNs, va_Nw (.methodLinkNest w.1 w.2.1 w.2.2.1 w.2.2.2) U) ∧ va_AO RX4 U ∧ vk_S 5 gLen gByt d.2.2.1 d.2.2.2 (fun q => b ≤ q) U U.heap ∧ (∀ (i : Nat) (w : String × Nat × String), gSr[i]? = some w → vk_R w.1 w.2.1 w.2.2 (d.2.2.1 i) U)
  ∧ va_Z "java/lang/String" "COMPACT_STRINGS" "Z" (.int 1) (fun q => b ≤ q) U U.heap ∧ vx_Zq Bundle.tN "UNASSIGNED_STACK" Bundle.steD (fun q => b ≤ q) U U.heap ∧ vx_Zq Bundle.tN "SUPPRESSED_SENTINEL" Bundle.listD (fun q => b ≤ q) U U.heap ∧ (∀ q ∈ gCs, va_Nw (.castable q.1 q.2) U) ∧ (∀ x ∈ gDs, va_Nw (.declares x) U) ∧ ∃ fo : Option Nat, va_Z "jdk/internal/util/Preconditions" "SIOOBE_FORMATTER" "Ljava/util/function/BiFunction;" (va_rf fo) (fun q => b ≤ q) U U.heap
def gV (d : gD) (b : Nat) (U : State) : Prop := b ≤ U.heap.size ∧ gK d U ∧ gE d b U
theorem gV.moved {d : gD} {b : Nat} {s U : State} (h : gV d b s) (hW : s.WarmedH U.vm) (hz : s.heap.size ≤ U.heap.size) (hk : ∀ q : Nat, q < s.heap.size → ¬ b ≤ q → U.heap[q]? = s.heap[q]?) : gV d b U := by
  obtain ⟨h1, h2, h3, h4, h5, h6, h7, h8, h9, h10, h11, fo, h12⟩ := h
  have hvm : s.vm.Alike U.vm := hW.alike
  exact ⟨Nat.le_trans h1 hz, va_K.moved hvm h2, fun w hw => va_Nw.warmM hW (h3 w hw), h4.moved hvm, (h5.moved hvm).kept hk, fun i w hw => (h6 i w hw).warm hW, (h7.moved hvm).kept hk, (h8.moved hvm).kept hk, (h9.moved hvm).kept hk, fun q hq => va_Nw.warmC hW (h10 q hq), fun x hx => va_Nw.warmD hW (h11 x hx), fo, (h12.moved hvm).kept hk⟩
theorem gV.vm {d : gD} {b : Nat} {U T : State} (h : gV d b U) (hv : T.vm = U.vm) (hh : T.heap = U.heap) : gV d b T := by
  obtain ⟨h1, h2, h3, h4, h5, h6, h7, h8, h9, h10, h11, fo, h12⟩ := h
  have hvm : U.vm.Alike T.vm := by rw [hv]; exact Vm.Alike.refl U.vm
  refine ⟨by rw [hh]; exact h1, va_K.moved hvm h2, fun w hw => va_Nw.same rfl hv.symm (h3 w hw), h4.moved hvm, ?_, fun i w hw => (h6 i w hw).same hv, ?_, ?_, ?_, fun q hq => va_Nw.same rfl hv.symm (h10 q hq), fun x hx => va_Nw.same rfl hv.symm (h11 x hx), fo, ?_⟩ <;> rw [hh]
  · exact h5.moved hvm
  · exact h7.moved hvm
  · exact h8.moved hvm
  · exact h9.moved hvm
  · exact h12.moved hvm
/-- a contract's world -/
def gB (d : gD) (b : Nat) (F : gM) (U : State) : Prop := gV d b U ∧ gH d b F U.heap
theorem gB.blind {d : gD} {b : Nat} {F : gM} {av : List Value} : FrameBlind (va_Pc av (gB d b F)) := fun a U g mk h => ⟨h.1, h.2.1.vm rfl rfl, h.2.2⟩

-- the context of a walk
def gC (own : String) (cc : ByteArray) (nL : Nat) (rt : Option FieldType) (nm : String) (R : Room) (d : gD) (b : Nat) (X : gX) : Prop :=
  X.pr.tables.exec = Jvm.exec ∧ X.co.code = cc ∧ X.co.maxLocals = nL ∧ X.st.vm.findClass own = some X.mi.cls ∧ (∀ w ∈ gWs, w.before X.ar X.st = true) ∧ gV d b X.st ∧ X.me.locks = false ∧ X.me.sig.returnType = rt ∧ X.me.name = nm ∧ X.rm = R
section G1
variable {own : String} {cc : ByteArray} {nL : Nat} {rt : Option FieldType} {nm : String} {R : Room} {d : gD} {b : Nat} {X : gX} {Q : State → Prop} {F : gM} {k n pc : Nat} {lv : List (Option Value)} {st : List Value}
theorem gC.hx (h : gC own cc nL rt nm R d b X) : X.pr.tables.exec = Jvm.exec := h.1
theorem gC.hb (h : gC own cc nL rt nm R d b X) : X.co.code = cc := h.2.1
theorem gC.hml (h : gC own cc nL rt nm R d b X) : X.co.maxLocals = nL := h.2.2.1
theorem gC.how (h : gC own cc nL rt nm R d b X) : X.st.vm.findClass own = some X.mi.cls := h.2.2.2.1
theorem gC.hts (h : gC own cc nL rt nm R d b X) : ∀ w ∈ gWs, w.before X.ar X.st = true := h.2.2.2.2.1
theorem gC.hv (h : gC own cc nL rt nm R d b X) : gV d b X.st := h.2.2.2.2.2.1
theorem gC.hlk (h : gC own cc nL rt nm R d b X) : X.me.locks = false := h.2.2.2.2.2.2.1
theorem gC.hrt (h : gC own cc nL rt nm R d b X) : X.me.sig.returnType = rt := h.2.2.2.2.2.2.2.1
theorem gC.hnm (h : gC own cc nL rt nm R d b X) : X.me.name = nm := h.2.2.2.2.2.2.2.2.1
theorem gC.hR (h : gC own cc nL rt nm R d b X) : X.rm = R := h.2.2.2.2.2.2.2.2.2
theorem gC.A (h : gC own cc nL rt nm R d b X) : ∀ q, X.st.heap.size ≤ q → b ≤ q := fun _ hq => Nat.le_trans h.hv.1 hq
/-- at a moment of the walk -/
theorem gC.at (h : gC own cc nL rt nm R d b X) {H : Heap} {locs : List Loc} (hS : va_S (fun q => b ≤ q) X.st.heap H locs) {U : State} (hU : U.heap = H) (hW : X.st.WarmedH U.vm) : gV d b U :=
  h.hv.moved hW (by rw [hU]; exact hS.1) (fun q h1 h2 => by rw [hU]; exact hS.2.1 q h1 h2)
theorem g_widen {k2 n2 : Nat} (h1 : k ≤ k2) (h2 : n ≤ n2) (kk : gG X d b Q F k2 n2 pc lv st) : gG X d b Q F k n pc lv st := fun H locs ls hH hS hL => W.widen h1 h2 (kk H locs ls hH hS hL)
theorem g_lv {lv' : List (Option Value)} (hs : gSubB lv' lv) (kk : gG X d b Q F k n pc lv' st) : gG X d b Q F k n pc lv st := fun H locs ls hH hS hL => kk H locs ls hH hS (hL.sub hs.ok.1 hs.ok.2)
theorem g_F {F' : gM} (h : F = F') (kk : gG X d b Q F' k n pc lv st) : gG X d b Q F k n pc lv st := h ▸ kk
theorem g_vi {x : Int32} (kk : ∀ y : Int32, y = x → gG X d b Q F k n pc lv (.int y :: st)) : gG X d b Q F k n pc lv (.int x :: st) := kk x rfl
theorem g_vl {x : Int64} (kk : ∀ y : Int64, y = x → gG X d b Q F k n pc lv (.long y :: st)) : gG X d b Q F k n pc lv (.long x :: st) := kk x rfl
theorem g_iconst (hC : gC own cc nL rt nm R d b X) {i : Int} {v : Int32} (hdg : decode cc pc = .ok (.iconst i, 1)) (hv : Int32.ofInt i = v) (kk : gG X d b Q F k n (pc + 1) lv (.int v :: st)) : gG X d b Q F k n pc lv st := fun H locs ls hH hS hL => lv_iconst hC.hx hC.hb hdg hv (kk H locs ls hH hS hL)
theorem g_bipush (hC : gC own cc nL rt nm R d b X) {i : Int} {v : Int32} (hdg : decode cc pc = .ok (.bipush i, 2)) (hv : (Int8.ofInt i).toInt32 = v) (kk : gG X d b Q F k n (pc + 2) lv (.int v :: st)) : gG X d b Q F k n pc lv st := fun H locs ls hH hS hL => lv_bipush hC.hx hC.hb hdg hv (kk H locs ls hH hS hL)
theorem g_sipush (hC : gC own cc nL rt nm R d b X) {i : Int} {v : Int32} (hdg : decode cc pc = .ok (.sipush i, 3)) (hv : (Int16.ofInt i).toInt32 = v) (kk : gG X d b Q F k n (pc + 3) lv (.int v :: st)) : gG X d b Q F k n pc lv st := fun H locs ls hH hS hL => lv_sipush hC.hx hC.hb hdg hv (kk H locs ls hH hS hL)
theorem g_lconst (hC : gC own cc nL rt nm R d b X) {i : Fin 2} {v : Int64} (hdg : decode cc pc = .ok (.lconst i, 1)) (hv : Int64.ofNat (i : Nat) = v) (kk : gG X d b Q F k n (pc + 1) lv (.long v :: st)) : gG X d b Q F k n pc lv st := fun H locs ls hH hS hL => lv_lconst hC.hx hC.hb hdg hv (kk H locs ls hH hS hL)
theorem g_ldc (hC : gC own cc nL rt nm R d b X) {i : Nat} {v : Int32} (hdg : decode cc pc = .ok (.ldc i, 2)) (hw : Cond.constant own i v ∈ gWs) (kk : gG X d b Q F k n (pc + 2) lv (.int v :: st)) : gG X d b Q F k n pc lv st := fun H locs ls hH hS hL => lv_ldc hC.hx hC.hb hC.how (hC.hts _ hw) hdg (kk H locs ls hH hS hL)
theorem g_ldcw (hC : gC own cc nL rt nm R d b X) {i : Nat} {v : Int32} (hdg : decode cc pc = .ok (.ldc_w i, 3)) (hw : Cond.constant own i v ∈ gWs) (kk : gG X d b Q F k n (pc + 3) lv (.int v :: st)) : gG X d b Q F k n pc lv st := fun H locs ls hH hS hL => lv_ldcw hC.hx hC.hb hC.how (hC.hts _ hw) hdg (kk H locs ls hH hS hL)
theorem g_ldc2 (hC : gC own cc nL rt nm R d b X) {i : Nat} {v : Int64} (hdg : decode cc pc = .ok (.ldc2_w i, 3)) (hw : Cond.constantLong own i v ∈ gWs) (kk : gG X d b Q F k n (pc + 3) lv (.long v :: st)) : gG X d b Q F k n pc lv st := fun H locs ls hH hS hL => lv_ldc2 hC.hx hC.hb hC.how (hC.hts _ hw) hdg (kk H locs ls hH hS hL)
theorem g_iload_n (hC : gC own cc nL rt nm R d b X) {i : Fin 4} {x : Int32} (hdg : decode cc pc = .ok (.iload_n i, 1)) (hl : lv[(i : Nat)]? = some (some (.int x))) (kk : gG X d b Q F k n (pc + 1) lv (.int x :: st)) : gG X d b Q F k n pc lv st := fun H locs ls hH hS hL => lv_iload_n hC.hx hC.hb hdg rfl (hL.at hl) (kk H locs ls hH hS hL)
theorem g_iload (hC : gC own cc nL rt nm R d b X) {i : Nat} {x : Int32} (hdg : decode cc pc = .ok (.iload i, 2)) (hl : lv[i]? = some (some (.int x))) (kk : gG X d b Q F k n (pc + 2) lv (.int x :: st)) : gG X d b Q F k n pc lv st := fun H locs ls hH hS hL => lv_iload hC.hx hC.hb hdg (hL.at hl) (kk H locs ls hH hS hL)
theorem g_lload_n (hC : gC own cc nL rt nm R d b X) {i : Fin 4} {x : Int64} (hdg : decode cc pc = .ok (.lload_n i, 1)) (hl : lv[(i : Nat)]? = some (some (.long x))) (kk : gG X d b Q F k n (pc + 1) lv (.long x :: st)) : gG X d b Q F k n pc lv st := fun H locs ls hH hS hL => lv_lload_n hC.hx hC.hb hdg rfl (hL.at hl) (kk H locs ls hH hS hL)
theorem g_lload (hC : gC own cc nL rt nm R d b X) {i : Nat} {x : Int64} (hdg : decode cc pc = .ok (.lload i, 2)) (hl : lv[i]? = some (some (.long x))) (kk : gG X d b Q F k n (pc + 2) lv (.long x :: st)) : gG X d b Q F k n pc lv st := fun H locs ls hH hS hL => lv_lload hC.hx hC.hb hdg (hL.at hl) (kk H locs ls hH hS hL)
theorem g_aload_n (hC : gC own cc nL rt nm R d b X) {i : Fin 4} {x : Nat} (hdg : decode cc pc = .ok (.aload_n i, 1)) (hl : lv[(i : Nat)]? = some (some (.ref x))) (kk : gG X d b Q F k n (pc + 1) lv (.ref x :: st)) : gG X d b Q F k n pc lv st := fun H locs ls hH hS hL => lv_aload_n hC.hx hC.hb hdg rfl (hL.at hl) (kk H locs ls hH hS hL)
theorem g_aload (hC : gC own cc nL rt nm R d b X) {i : Nat} {x : Nat} (hdg : decode cc pc = .ok (.aload i, 2)) (hl : lv[i]? = some (some (.ref x))) (kk : gG X d b Q F k n (pc + 2) lv (.ref x :: st)) : gG X d b Q F k n pc lv st := fun H locs ls hH hS hL => lv_aload hC.hx hC.hb hdg (hL.at hl) (kk H locs ls hH hS hL)
theorem g_aload_nN (hC : gC own cc nL rt nm R d b X) {i : Fin 4} (hdg : decode cc pc = .ok (.aload_n i, 1)) (hl : lv[(i : Nat)]? = some (some .null)) (kk : gG X d b Q F k n (pc + 1) lv (.null :: st)) : gG X d b Q F k n pc lv st := fun H locs ls hH hS hL => lv_aload_nN hC.hx hC.hb hdg rfl (hL.at hl) (kk H locs ls hH hS hL)
theorem g_aloadN (hC : gC own cc nL rt nm R d b X) {i : Nat} (hdg : decode cc pc = .ok (.aload i, 2)) (hl : lv[i]? = some (some .null)) (kk : gG X d b Q F k n (pc + 2) lv (.null :: st)) : gG X d b Q F k n pc lv st := fun H locs ls hH hS hL => lv_aloadN hC.hx hC.hb hdg (hL.at hl) (kk H locs ls hH hS hL)
theorem g_istore_n (hC : gC own cc nL rt nm R d b X) {i : Fin 4} {x : Int32} {lv' : List (Option Value)} (hdg : decode cc pc = .ok (.istore_n i, 1)) (hn : (i : Nat) < lv.length) (hok : gOk lv (i : Nat) = true) (hl : (lv.set (i : Nat) (some (.int x))) = lv') (kk : gG X d b Q F k n (pc + 1) lv' st) : gG X d b Q F k n pc lv (.int x :: st) := fun H locs ls hH hS hL => lv_istore_n (lv' := _) hC.hx hC.hb hdg rfl hL.has hn rfl (fun ls2 h2 => kk H locs ls2 hH hS (hl ▸ gL.st1 hok h2))
theorem g_istore (hC : gC own cc nL rt nm R d b X) {i : Nat} {x : Int32} {lv' : List (Option Value)} (hdg : decode cc pc = .ok (.istore i, 2)) (hn : i < lv.length) (hok : gOk lv i = true) (hl : (lv.set i (some (.int x))) = lv') (kk : gG X d b Q F k n (pc + 2) lv' st) : gG X d b Q F k n pc lv (.int x :: st) := fun H locs ls hH hS hL => lv_istore (lv' := _) hC.hx hC.hb hdg hL.has hn rfl (fun ls2 h2 => kk H locs ls2 hH hS (hl ▸ gL.st1 hok h2))
theorem g_lstore_n (hC : gC own cc nL rt nm R d b X) {i : Fin 4} {x : Int64} {lv' : List (Option Value)} (hdg : decode cc pc = .ok (.lstore_n i, 1)) (hn : (i : Nat) + 1 < lv.length) (hok : gOk lv (i : Nat) = true) (hl : ((lv.set (i : Nat) (some (.long x))).set ((i : Nat) + 1) none) = lv') (kk : gG X d b Q F k n (pc + 1) lv' st) : gG X d b Q F k n pc lv (.long x :: st) := fun H locs ls hH hS hL => lv_lstore_n (lv' := _) hC.hx hC.hb hdg rfl hL.has hn rfl (fun ls2 h2 => kk H locs ls2 hH hS (hl ▸ gL.st2 hok h2))
theorem g_lstore (hC : gC own cc nL rt nm R d b X) {i : Nat} {x : Int64} {lv' : List (Option Value)} (hdg : decode cc pc = .ok (.lstore i, 2)) (hn : i + 1 < lv.length) (hok : gOk lv i = true) (hl : ((lv.set i (some (.long x))).set (i + 1) none) = lv') (kk : gG X d b Q F k n (pc + 2) lv' st) : gG X d b Q F k n pc lv (.long x :: st) := fun H locs ls hH hS hL => lv_lstore (lv' := _) hC.hx hC.hb hdg hL.has hn rfl (fun ls2 h2 => kk H locs ls2 hH hS (hl ▸ gL.st2 hok h2))
theorem g_astore_n (hC : gC own cc nL rt nm R d b X) {i : Fin 4} {x : Nat} {lv' : List (Option Value)} (hdg : decode cc pc = .ok (.astore_n i, 1)) (hn : (i : Nat) < lv.length) (hok : gOk lv (i : Nat) = true) (hl : (lv.set (i : Nat) (some (.ref x))) = lv') (kk : gG X d b Q F k n (pc + 1) lv' st) : gG X d b Q F k n pc lv (.ref x :: st) := fun H locs ls hH hS hL => lv_astore_n (lv' := _) hC.hx hC.hb hdg rfl hL.has hn rfl (fun ls2 h2 => kk H locs ls2 hH hS (hl ▸ gL.st1 hok h2))
theorem g_astore (hC : gC own cc nL rt nm R d b X) {i : Nat} {x : Nat} {lv' : List (Option Value)} (hdg : decode cc pc = .ok (.astore i, 2)) (hn : i < lv.length) (hok : gOk lv i = true) (hl : (lv.set i (some (.ref x))) = lv') (kk : gG X d b Q F k n (pc + 2) lv' st) : gG X d b Q F k n pc lv (.ref x :: st) := fun H locs ls hH hS hL => lv_astore (lv' := _) hC.hx hC.hb hdg hL.has hn rfl (fun ls2 h2 => kk H locs ls2 hH hS (hl ▸ gL.st1 hok h2))
theorem gA_ix {lv : List (Option Value)} {i : Nat} {v : Value} (h : lv[i]? = some (some v)) : ∃ j : Nat, (gA lv)[j]? = some (i, v) := List.getElem?_of_mem (gA_of h)
theorem g_iinc (hC : gC own cc nL rt nm R d b X) {i : Nat} {z : Int} {x v : Int32} {lv' : List (Option Value)} (hdg : decode cc pc = .ok (.iinc i z, 3)) (hx : lv[i]? = some (some (.int x))) (hv : x + Int32.ofInt z = v) (hok : gOk lv i = true) (hl : lv.set i (some (.int v)) = lv') (kk : gG X d b Q F k n (pc + 3) lv' st) : gG X d b Q F k n pc lv st := fun H locs ls hH hS hL => by
  obtain ⟨j, hj⟩ := gA_ix hx
  exact lv_iinc (lv' := _) hC.hx hC.hb hdg hL.has hj hv (List.getElem?_eq_some_iff.mp hx).1 rfl (fun ls2 h2 => kk H locs ls2 hH hS (hl ▸ gL.st1 hok h2))
theorem g_iadd (hC : gC own cc nL rt nm R d b X) {x y : Int32} (hdg : decode cc pc = .ok (.iadd, 1)) (kk : gG X d b Q F k n (pc + 1) lv (.int (x + y) :: st)) : gG X d b Q F k n pc lv (.int y :: .int x :: st) := fun H locs ls hH hS hL => lv_iadd hC.hx hC.hb hdg (kk H locs ls hH hS hL)
theorem g_isub (hC : gC own cc nL rt nm R d b X) {x y : Int32} (hdg : decode cc pc = .ok (.isub, 1)) (kk : gG X d b Q F k n (pc + 1) lv (.int (x - y) :: st)) : gG X d b Q F k n pc lv (.int y :: .int x :: st) := fun H locs ls hH hS hL => lv_isub hC.hx hC.hb hdg (kk H locs ls hH hS hL)
theorem g_imul (hC : gC own cc nL rt nm R d b X) {x y : Int32} (hdg : decode cc pc = .ok (.imul, 1)) (kk : gG X d b Q F k n (pc + 1) lv (.int (x * y) :: st)) : gG X d b Q F k n pc lv (.int y :: .int x :: st) := fun H locs ls hH hS hL => lv_imul hC.hx hC.hb hdg (kk H locs ls hH hS hL)
theorem g_iand (hC : gC own cc nL rt nm R d b X) {x y : Int32} (hdg : decode cc pc = .ok (.iand, 1)) (kk : gG X d b Q F k n (pc + 1) lv (.int (x &&& y) :: st)) : gG X d b Q F k n pc lv (.int y :: .int x :: st) := fun H locs ls hH hS hL => lv_iand hC.hx hC.hb hdg (kk H locs ls hH hS hL)
theorem g_ior (hC : gC own cc nL rt nm R d b X) {x y : Int32} (hdg : decode cc pc = .ok (.ior, 1)) (kk : gG X d b Q F k n (pc + 1) lv (.int (x ||| y) :: st)) : gG X d b Q F k n pc lv (.int y :: .int x :: st) := fun H locs ls hH hS hL => lv_ior hC.hx hC.hb hdg (kk H locs ls hH hS hL)
theorem g_ixor (hC : gC own cc nL rt nm R d b X) {x y : Int32} (hdg : decode cc pc = .ok (.ixor, 1)) (kk : gG X d b Q F k n (pc + 1) lv (.int (x ^^^ y) :: st)) : gG X d b Q F k n pc lv (.int y :: .int x :: st) := fun H locs ls hH hS hL => lv_ixor hC.hx hC.hb hdg (kk H locs ls hH hS hL)
theorem g_ladd (hC : gC own cc nL rt nm R d b X) {x y : Int64} (hdg : decode cc pc = .ok (.ladd, 1)) (kk : gG X d b Q F k n (pc + 1) lv (.long (x + y) :: st)) : gG X d b Q F k n pc lv (.long y :: .long x :: st) := fun H locs ls hH hS hL => lv_ladd hC.hx hC.hb hdg (kk H locs ls hH hS hL)
theorem g_lsub (hC : gC own cc nL rt nm R d b X) {x y : Int64} (hdg : decode cc pc = .ok (.lsub, 1)) (kk : gG X d b Q F k n (pc + 1) lv (.long (x - y) :: st)) : gG X d b Q F k n pc lv (.long y :: .long x :: st) := fun H locs ls hH hS hL => lv_lsub hC.hx hC.hb hdg (kk H locs ls hH hS hL)
theorem g_lmul (hC : gC own cc nL rt nm R d b X) {x y : Int64} (hdg : decode cc pc = .ok (.lmul, 1)) (kk : gG X d b Q F k n (pc + 1) lv (.long (x * y) :: st)) : gG X d b Q F k n pc lv (.long y :: .long x :: st) := fun H locs ls hH hS hL => lv_lmul hC.hx hC.hb hdg (kk H locs ls hH hS hL)
theorem g_ineg (hC : gC own cc nL rt nm R d b X) {x : Int32} (hdg : decode cc pc = .ok (.ineg, 1)) (kk : gG X d b Q F k n (pc + 1) lv (.int (-x) :: st)) : gG X d b Q F k n pc lv (.int x :: st) := fun H locs ls hH hS hL => lv_ineg hC.hx hC.hb hdg (kk H locs ls hH hS hL)
theorem g_i2l (hC : gC own cc nL rt nm R d b X) {x : Int32} (hdg : decode cc pc = .ok (.i2l, 1)) (kk : gG X d b Q F k n (pc + 1) lv (.long x.toInt64 :: st)) : gG X d b Q F k n pc lv (.int x :: st) := fun H locs ls hH hS hL => lv_i2l hC.hx hC.hb hdg rfl (kk H locs ls hH hS hL)
theorem g_l2i (hC : gC own cc nL rt nm R d b X) {x : Int64} (hdg : decode cc pc = .ok (.l2i, 1)) (kk : gG X d b Q F k n (pc + 1) lv (.int x.toInt32 :: st)) : gG X d b Q F k n pc lv (.long x :: st) := fun H locs ls hH hS hL => lv_l2i hC.hx hC.hb hdg rfl (kk H locs ls hH hS hL)
theorem g_i2b (hC : gC own cc nL rt nm R d b X) {x : Int32} (hdg : decode cc pc = .ok (.i2b, 1)) (kk : gG X d b Q F k n (pc + 1) lv (.int x.toInt8.toInt32 :: st)) : gG X d b Q F k n pc lv (.int x :: st) := fun H locs ls hH hS hL => lv_i2b hC.hx hC.hb hdg rfl (kk H locs ls hH hS hL)
theorem g_iushr (hC : gC own cc nL rt nm R d b X) {x y : Int32} (hdg : decode cc pc = .ok (.iushr, 1)) (kk : gG X d b Q F k n (pc + 1) lv (.int (x.toUInt32 >>> (y.toUInt32 &&& Int32.toUInt32 31)).toInt32 :: st)) : gG X d b Q F k n pc lv (.int y :: .int x :: st) := fun H locs ls hH hS hL => lv_iushr hC.hx hC.hb hdg rfl (kk H locs ls hH hS hL)
theorem g_lcmp (hC : gC own cc nL rt nm R d b X) {x y : Int64} (hdg : decode cc pc = .ok (.lcmp, 1)) (kk : gG X d b Q F k n (pc + 1) lv (.int (lg_cmp x y) :: st)) : gG X d b Q F k n pc lv (.long y :: .long x :: st) := fun H locs ls hH hS hL => W.lcmp hC.hx hC.hb hdg (kk H locs ls hH hS hL)
theorem g_dup (hC : gC own cc nL rt nm R d b X) {v : Value} (hdg : decode cc pc = .ok (.dup, 1)) (hv : v.category = 1) (kk : gG X d b Q F k n (pc + 1) lv (v :: v :: st)) : gG X d b Q F k n pc lv (v :: st) := fun H locs ls hH hS hL => lv_dup hC.hx hC.hb hdg hv (kk H locs ls hH hS hL)
theorem g_pop (hC : gC own cc nL rt nm R d b X) {v : Value} (hdg : decode cc pc = .ok (.pop, 1)) (hv : v.category = 1) (kk : gG X d b Q F k n (pc + 1) lv st) : gG X d b Q F k n pc lv (v :: st) := fun H locs ls hH hS hL => lv_pop hC.hx hC.hb hdg hv (kk H locs ls hH hS hL)
theorem g_dup2 (hC : gC own cc nL rt nm R d b X) {u v : Value} (hdg : decode cc pc = .ok (.dup2, 1)) (hu : u.category = 1) (hv : v.category = 1) (kk : gG X d b Q F k n (pc + 1) lv (u :: v :: u :: v :: st)) : gG X d b Q F k n pc lv (u :: v :: st) := fun H locs ls hH hS hL => lv_dup2_11 hC.hx hC.hb hdg hu hv (kk H locs ls hH hS hL)
theorem g_dup_x1 (hC : gC own cc nL rt nm R d b X) {u v : Value} (hdg : decode cc pc = .ok (.dup_x1, 1)) (hu : u.category = 1) (hv : v.category = 1) (kk : gG X d b Q F k n (pc + 1) lv (u :: v :: u :: st)) : gG X d b Q F k n pc lv (u :: v :: st) := fun H locs ls hH hS hL => lv_dup_x1 hC.hx hC.hb hdg hu hv (kk H locs ls hH hS hL)
theorem g_if_eq (hC : gC own cc nL rt nm R d b X) {x : Int32} {off : Int} {tgt : Nat} (hdg : decode cc pc = .ok (.ifCond .eq off, 3)) (ht : (pc : Int) + off = (tgt : Int)) (kt : x = 0 → gG X d b Q F k n tgt lv st) (kf : ¬ x = 0 → gG X d b Q F k n (pc + 3) lv st) : gG X d b Q F k n pc lv (.int x :: st) := fun H locs ls hH hS hL => lv_if_eq hC.hx hC.hb hdg ht (fun q => kt q H locs ls hH hS hL) (fun q => kf q H locs ls hH hS hL)
theorem g_icmp_eq (hC : gC own cc nL rt nm R d b X) {x y : Int32} {off : Int} {tgt : Nat} (hdg : decode cc pc = .ok (.if_icmp .eq off, 3)) (ht : (pc : Int) + off = (tgt : Int)) (kt : x = y → gG X d b Q F k n tgt lv st) (kf : ¬ x = y → gG X d b Q F k n (pc + 3) lv st) : gG X d b Q F k n pc lv (.int y :: .int x :: st) := fun H locs ls hH hS hL => lv_icmp_eq hC.hx hC.hb hdg ht (fun q => kt q H locs ls hH hS hL) (fun q => kf q H locs ls hH hS hL)
theorem g_if_ne (hC : gC own cc nL rt nm R d b X) {x : Int32} {off : Int} {tgt : Nat} (hdg : decode cc pc = .ok (.ifCond .ne off, 3)) (ht : (pc : Int) + off = (tgt : Int)) (kt : ¬ x = 0 → gG X d b Q F k n tgt lv st) (kf : x = 0 → gG X d b Q F k n (pc + 3) lv st) : gG X d b Q F k n pc lv (.int x :: st) := fun H locs ls hH hS hL => lv_if_ne hC.hx hC.hb hdg ht (fun q => kt q H locs ls hH hS hL) (fun q => kf q H locs ls hH hS hL)
theorem g_icmp_ne (hC : gC own cc nL rt nm R d b X) {x y : Int32} {off : Int} {tgt : Nat} (hdg : decode cc pc = .ok (.if_icmp .ne off, 3)) (ht : (pc : Int) + off = (tgt : Int)) (kt : ¬ x = y → gG X d b Q F k n tgt lv st) (kf : x = y → gG X d b Q F k n (pc + 3) lv st) : gG X d b Q F k n pc lv (.int y :: .int x :: st) := fun H locs ls hH hS hL => lv_icmp_ne hC.hx hC.hb hdg ht (fun q => kt q H locs ls hH hS hL) (fun q => kf q H locs ls hH hS hL)
theorem g_if_lt (hC : gC own cc nL rt nm R d b X) {x : Int32} {off : Int} {tgt : Nat} (hdg : decode cc pc = .ok (.ifCond .lt off, 3)) (ht : (pc : Int) + off = (tgt : Int)) (kt : x < 0 → gG X d b Q F k n tgt lv st) (kf : ¬ x < 0 → gG X d b Q F k n (pc + 3) lv st) : gG X d b Q F k n pc lv (.int x :: st) := fun H locs ls hH hS hL => lv_if_lt hC.hx hC.hb hdg ht (fun q => kt q H locs ls hH hS hL) (fun q => kf q H locs ls hH hS hL)
theorem g_icmp_lt (hC : gC own cc nL rt nm R d b X) {x y : Int32} {off : Int} {tgt : Nat} (hdg : decode cc pc = .ok (.if_icmp .lt off, 3)) (ht : (pc : Int) + off = (tgt : Int)) (kt : x < y → gG X d b Q F k n tgt lv st) (kf : ¬ x < y → gG X d b Q F k n (pc + 3) lv st) : gG X d b Q F k n pc lv (.int y :: .int x :: st) := fun H locs ls hH hS hL => lv_icmp_lt hC.hx hC.hb hdg ht (fun q => kt q H locs ls hH hS hL) (fun q => kf q H locs ls hH hS hL)
theorem g_if_ge (hC : gC own cc nL rt nm R d b X) {x : Int32} {off : Int} {tgt : Nat} (hdg : decode cc pc = .ok (.ifCond .ge off, 3)) (ht : (pc : Int) + off = (tgt : Int)) (kt : 0 ≤ x → gG X d b Q F k n tgt lv st) (kf : ¬ 0 ≤ x → gG X d b Q F k n (pc + 3) lv st) : gG X d b Q F k n pc lv (.int x :: st) := fun H locs ls hH hS hL => lv_if_ge hC.hx hC.hb hdg ht (fun q => kt q H locs ls hH hS hL) (fun q => kf q H locs ls hH hS hL)
theorem g_icmp_ge (hC : gC own cc nL rt nm R d b X) {x y : Int32} {off : Int} {tgt : Nat} (hdg : decode cc pc = .ok (.if_icmp .ge off, 3)) (ht : (pc : Int) + off = (tgt : Int)) (kt : y ≤ x → gG X d b Q F k n tgt lv st) (kf : ¬ y ≤ x → gG X d b Q F k n (pc + 3) lv st) : gG X d b Q F k n pc lv (.int y :: .int x :: st) := fun H locs ls hH hS hL => lv_icmp_ge hC.hx hC.hb hdg ht (fun q => kt q H locs ls hH hS hL) (fun q => kf q H locs ls hH hS hL)
theorem g_if_gt (hC : gC own cc nL rt nm R d b X) {x : Int32} {off : Int} {tgt : Nat} (hdg : decode cc pc = .ok (.ifCond .gt off, 3)) (ht : (pc : Int) + off = (tgt : Int)) (kt : 0 < x → gG X d b Q F k n tgt lv st) (kf : ¬ 0 < x → gG X d b Q F k n (pc + 3) lv st) : gG X d b Q F k n pc lv (.int x :: st) := fun H locs ls hH hS hL => lv_if_gt hC.hx hC.hb hdg ht (fun q => kt q H locs ls hH hS hL) (fun q => kf q H locs ls hH hS hL)
theorem g_icmp_gt (hC : gC own cc nL rt nm R d b X) {x y : Int32} {off : Int} {tgt : Nat} (hdg : decode cc pc = .ok (.if_icmp .gt off, 3)) (ht : (pc : Int) + off = (tgt : Int)) (kt : y < x → gG X d b Q F k n tgt lv st) (kf : ¬ y < x → gG X d b Q F k n (pc + 3) lv st) : gG X d b Q F k n pc lv (.int y :: .int x :: st) := fun H locs ls hH hS hL => lv_icmp_gt hC.hx hC.hb hdg ht (fun q => kt q H locs ls hH hS hL) (fun q => kf q H locs ls hH hS hL)
theorem g_if_le (hC : gC own cc nL rt nm R d b X) {x : Int32} {off : Int} {tgt : Nat} (hdg : decode cc pc = .ok (.ifCond .le off, 3)) (ht : (pc : Int) + off = (tgt : Int)) (kt : x ≤ 0 → gG X d b Q F k n tgt lv st) (kf : ¬ x ≤ 0 → gG X d b Q F k n (pc + 3) lv st) : gG X d b Q F k n pc lv (.int x :: st) := fun H locs ls hH hS hL => lv_if_le hC.hx hC.hb hdg ht (fun q => kt q H locs ls hH hS hL) (fun q => kf q H locs ls hH hS hL)
theorem g_icmp_le (hC : gC own cc nL rt nm R d b X) {x y : Int32} {off : Int} {tgt : Nat} (hdg : decode cc pc = .ok (.if_icmp .le off, 3)) (ht : (pc : Int) + off = (tgt : Int)) (kt : x ≤ y → gG X d b Q F k n tgt lv st) (kf : ¬ x ≤ y → gG X d b Q F k n (pc + 3) lv st) : gG X d b Q F k n pc lv (.int y :: .int x :: st) := fun H locs ls hH hS hL => lv_icmp_le hC.hx hC.hb hdg ht (fun q => kt q H locs ls hH hS hL) (fun q => kf q H locs ls hH hS hL)
theorem g_goto (hC : gC own cc nL rt nm R d b X) {off : Int} {tgt : Nat} (hdg : decode cc pc = .ok (.goto off, 3)) (ht : (pc : Int) + off = (tgt : Int)) (kk : gG X d b Q F k n tgt lv st) : gG X d b Q F k n pc lv st := fun H locs ls hH hS hL => lv_goto hC.hx hC.hb hdg ht (kk H locs ls hH hS hL)
theorem g_idiv (hC : gC own cc nL rt nm R d b X) {x y : Int32} (hdg : decode cc pc = .ok (.idiv, 1)) (hne : ¬ y = 0) (kk : gG X d b Q F k n (pc + 1) lv (.int (x / y) :: st)) : gG X d b Q F k n pc lv (.int y :: .int x :: st) := fun H locs ls hH hS hL => lv_idiv hC.hx hC.hb hdg hne (kk H locs ls hH hS hL)
theorem g_lookup (hC : gC own cc nL rt nm R d b X) {dflt : Int} {ps : Array (Int × Int)} {len : Nat} {x : Int32} {off : Int} {tgt : Nat} (hdg : decode cc pc = .ok (.lookupswitch dflt ps, len)) (hp : (ps.toList.zip (ps.toList.drop 1)).all (fun (a, next) => a.1 < next.1) = true) (ho : Op.lookupswitch.offset ps.toList dflt x.toInt = off) (ht : (pc : Int) + off = (tgt : Int)) (kk : gG X d b Q F k n tgt lv st) : gG X d b Q F k n pc lv (.int x :: st) := fun H locs ls hH hS hL => lv_lookup hC.hx hC.hb hdg hp ho ht (kk H locs ls hH hS hL)
theorem g_tableOut (hC : gC own cc nL rt nm R d b X) {dflt lo hi : Int} {offs : Array Int} {len : Nat} {x : Int32} {tgt : Nat} (hdg : decode cc pc = .ok (.tableswitch dflt lo hi offs, len)) (h : x.toInt < lo ∨ hi < x.toInt) (ht : (pc : Int) + dflt = (tgt : Int)) (kk : gG X d b Q F k n tgt lv st) : gG X d b Q F k n pc lv (.int x :: st) := fun H locs ls hH hS hL => lv_tableOut hC.hx hC.hb hdg h ht (kk H locs ls hH hS hL)
theorem g_tableIn (hC : gC own cc nL rt nm R d b X) {dflt lo hi : Int} {offs : Array Int} {len : Nat} {x : Int32} {off : Int} {tgt : Nat} (hdg : decode cc pc = .ok (.tableswitch dflt lo hi offs, len)) (h1 : ¬ x.toInt < lo) (h2 : ¬ hi < x.toInt) (ho : offs[(x.toInt - lo).toNat]? = some off) (ht : (pc : Int) + off = (tgt : Int)) (kk : gG X d b Q F k n tgt lv st) : gG X d b Q F k n pc lv (.int x :: st) := fun H locs ls hH hS hL => lv_tableIn hC.hx hC.hb hdg h1 h2 ho ht (kk H locs ls hH hS hL)
theorem g_objInit (hC : gC own cc nL rt nm R d b X) {i a : Nat} (hdg : decode cc pc = .ok (.invokespecial i, 3)) (hw : Cond.methodLink own i objectInit ∈ gWs) (hn : nL = lv.length) (hR : 1 ≤ R.frames ∧ 20 ≤ R.locals) (hr : (st.map fun v => v.category).sum ≤ 8) (kk : gG X d b Q F k n (pc + 3) lv st) : gG X d b Q F k n pc lv (.ref a :: st) := fun H locs ls hH hS hL =>
  W.objInit hC.hx hC.hb hC.how (hC.hts _ hw) (hC.hts _ gw_oi) (hC.hts _ gw_oc) (g := F0 X.mi pc ls (.ref a :: st)) rfl (by rw [hC.hml, hn]; exact hL.1) rfl hdg (by rw [hC.hR]; exact hR.1) (by
    rw [hC.hR]
    show 2 * 0 + _ + 12 ≤ _
    omega) (kk H locs ls hH hS hL)
/-- a field of class ci, place j, as 'own' links it: its type, whether it is final -/
def gFL (own : String) (idx ci j : Nat) (ty : FieldType) (fin : Bool) : Prop := ∃ (C : String) (T : u_T) (N : Nat) (ty0 : Nat → FieldType), vwCl[ci]? = some (C, T, N) ∧ j < N ∧ (∀ w ∈ u_ws C T N, w ∈ gWs) ∧ Cond.fieldLink own idx (T j).1 (T j).2.1 (T j).2.2.1 ∈ gWs ∧ (∀ q, q < N → parseFieldDescriptor (T q).2.2.1 = some (ty0 q)) ∧ (∀ a, a < N → ∀ b, b < N → a ≠ b → (T a).2.1 ≠ (T b).2.1) ∧ (T j).2.2.2 = fin ∧ parseFieldDescriptor (T j).2.2.1 = some ty ∧ (fin = true → (T j).1 = own)
theorem g_get (hC : gC own cc nL rt nm R d b X) {a idx ci j : Nat} {ty : FieldType} {fin : Bool} {v0 v : Value} {fs : List Value} (hl : gFL own idx ci j ty fin) (hF : F a = .inr (ci, v0 :: fs)) (hv : (v0 :: fs)[j]? = some v) (hdg : decode cc pc = .ok (.getfield idx, 3)) (kk : gG X d b Q F k n (pc + 3) lv (v :: st)) : gG X d b Q F k n pc lv (.ref a :: st) := fun H locs ls hH hS hL => by
  obtain ⟨L, hP, hD, h0⟩ := id hH
  obtain ⟨q, hm, hq⟩ := gH.at (d := d) (b := b) (H := H) h0 hF g0_o
  obtain ⟨C, T, N, ty0, z1, z2, z3, z4, z5, z6, z7, z8, z9⟩ := hl
  exact va_get (D := d.1) hC.hx hC.hb hC.hts z3 hC.how hC.hv.2.1 hP q hq z1 j z2 (hC.hts _ z4) (fun _ h => h) hv hdg (kk H locs ls hH hS hL)
theorem g_put (hC : gC own cc nL rt nm R d b X) {a idx ci j : Nat} {ty : FieldType} {v0 v : Value} {fs : List Value} (hl : gFL own idx ci j ty false) (hF : F a = .inr (ci, v0 :: fs)) (hn : narrow ty v = v) (hfit : fits ty v = true) (hj : j < (v0 :: fs).length) (hdg : decode cc pc = .ok (.putfield idx, 3)) (kk : gG X d b Q (va_up F a (.inr (ci, (v0 :: fs).set j v))) k n (pc + 3) lv st) : gG X d b Q F k n pc lv (v :: .ref a :: st) := fun H locs ls hH hS hL => by
  obtain ⟨L, hP, hD, h0⟩ := id hH
  obtain ⟨q, hm, hq⟩ := gH.at (d := d) (b := b) (H := H) h0 hF g0_o
  obtain ⟨C, T, N, ty0, z1, z2, z3, z4, z5, z6, z7, z8, z9⟩ := hl
  exact va_put (D := d.1) hC.hx hC.hb hC.hts z3 ty0 z5 z6 hC.how hC.hv.2.1 hP hD hS q hq z1 j z2 (hC.hts _ z4) (fun _ h => h) z7 z8 hn hfit hj hdg (fun H1 locs1 hP1 hD1 hS1 => kk H1 locs1 ls (gH.set h0 hm hD hq hF hP1 hD1) hS1 hL)
theorem g_putF (hC : gC own cc nL rt "<init>" R d b X) {a idx ci j : Nat} {ty : FieldType} {v0 v : Value} {fs : List Value} (hl : gFL own idx ci j ty true) (hF : F a = .inr (ci, v0 :: fs)) (hn : narrow ty v = v) (hfit : fits ty v = true) (hj : j < (v0 :: fs).length) (hdg : decode cc pc = .ok (.putfield idx, 3)) (kk : gG X d b Q (va_up F a (.inr (ci, (v0 :: fs).set j v))) k n (pc + 3) lv st) : gG X d b Q F k n pc lv (v :: .ref a :: st) := fun H locs ls hH hS hL => by
  obtain ⟨L, hP, hD, h0⟩ := id hH
  obtain ⟨q, hm, hq⟩ := gH.at (d := d) (b := b) (H := H) h0 hF g0_o
  obtain ⟨C, T, N, ty0, z1, z2, z3, z4, z5, z6, z7, z8, z9⟩ := hl
  exact va_putF (D := d.1) hC.hx hC.hb hC.hts z3 ty0 z5 z6 hC.how hC.hv.2.1 hP hD hS q hq z1 j z2 (hC.hts _ z4) (fun _ h => h) z7 hC.hnm (z9 rfl) z8 hn hfit hj hdg (fun H1 locs1 hP1 hD1 hS1 => kk H1 locs1 ls (gH.set h0 hm hD hq hF hP1 hD1) hS1 hL)
/-- a class that can be made -/
def gNL (own : String) (idx ci : Nat) (N : Nat) (fs : List Value) : Prop := ∃ (C : String) (T : u_T) (ty0 : Nat → FieldType), vwCl[ci]? = some (C, T, N) ∧ (∀ w ∈ u_ws C T N, w ∈ gWs) ∧ (∀ q, q < N → parseFieldDescriptor (T q).2.2.1 = some (ty0 q)) ∧ Cond.classLink own idx C ∈ gWs ∧ Cond.instantiable C N ∈ gWs ∧ Cond.initialized C ∈ gWs ∧ ∀ j, j < N → defaultValue (ty0 j) = vp_V fs j
theorem g_new (hC : gC own cc nL rt nm R d b X) {idx ci N : Nat} {fs : List Value} (hl : gNL own idx ci N fs) (hk : k + 1 ≤ R.cells) (hs : n + N ≤ R.slots) (hdg : decode cc pc = .ok (.new idx, 3)) (kk : ∀ q : Nat, F q = g0 → gG X d b Q (va_up F q (.inr (ci, fs))) (k + 1) (n + N) (pc + 3) lv (.ref q :: st)) : gG X d b Q F k n pc lv st := fun H locs ls hH hS hL => by
  obtain ⟨L, hP, hD, h0⟩ := id hH
  obtain ⟨C, T, ty0, z1, z2, z3, z4, z5, z6, z7⟩ := hl
  exact va_new (D := d.1) hC.hx hC.hb hC.hts z2 ty0 z3 hC.how (hC.hts _ z4) (hC.hts _ z5) (hC.hts _ z6) hC.hv.2.1 hP hD hS hC.A z1 z7 (by rw [hC.hR]; exact hk) (by rw [hC.hR]; exact hs) hdg (fun q H1 hP1 hD1 hS1 => by
    obtain ⟨e1, e2⟩ := gH.push h0 hP1 hD1
    exact kk q e1 H1 locs ls e2 hS1 hL)
theorem g_iald (hC : gC own cc nL rt nm R d b X) {a N : Nat} {f : Nat → Int32} {i : Int32} (hF : F a = .inl (gI d, N, .inl f)) (hin : vp_in i N) (hdg : decode cc pc = .ok (.iaload, 1)) (kk : gG X d b Q F k n (pc + 1) lv (.int (f i.toNatClampNeg) :: st)) : gG X d b Q F k n pc lv (.int i :: .ref a :: st) := fun H locs ls hH hS hL => by
  obtain ⟨L, hP, hD, h0⟩ := id hH
  obtain ⟨q, hm, hq⟩ := gH.at (d := d) (b := b) (H := H) h0 hF g0_a
  exact va_iald (D := d.1) hC.hx hC.hb hC.hv.2.1 hP q 0 hq rfl hin hdg (kk H locs ls hH hS hL)
theorem g_iast (hC : gC own cc nL rt nm R d b X) {a N : Nat} {f : Nat → Int32} {i x : Int32} (hF : F a = .inl (gI d, N, .inl f)) (hin : vp_in i N) (hdg : decode cc pc = .ok (.iastore, 1)) (kk : gG X d b Q (va_up F a (.inl (gI d, N, .inl (upd f i.toNatClampNeg x)))) k n (pc + 1) lv st) : gG X d b Q F k n pc lv (.int x :: .int i :: .ref a :: st) := fun H locs ls hH hS hL => by
  obtain ⟨L, hP, hD, h0⟩ := id hH
  obtain ⟨q, hm, hq⟩ := gH.at (d := d) (b := b) (H := H) h0 hF g0_a
  exact va_iast (D := d.1) hC.hx hC.hb hC.hv.2.1 hP hD hS q 0 hq rfl hin hdg (fun H1 locs1 hP1 hD1 hS1 => kk H1 locs1 ls (gH.set h0 hm hD hq hF hP1 hD1) hS1 hL)
theorem g_bald (hC : gC own cc nL rt nm R d b X) {a N : Nat} {f : Nat → Int32} {i : Int32} (hF : F a = .inl (gY d, N, .inl f)) (hin : vp_in i N) (hdg : decode cc pc = .ok (.baload, 1)) (kk : gG X d b Q F k n (pc + 1) lv (.int (f i.toNatClampNeg) :: st)) : gG X d b Q F k n pc lv (.int i :: .ref a :: st) := fun H locs ls hH hS hL => by
  obtain ⟨L, hP, hD, h0⟩ := id hH
  obtain ⟨q, hm, hq⟩ := gH.at (d := d) (b := b) (H := H) h0 hF g0_a
  exact va_bald (D := d.1) hC.hx hC.hb hC.hv.2.1 hP q 1 hq rfl hin hdg (kk H locs ls hH hS hL)
theorem g_bast (hC : gC own cc nL rt nm R d b X) {a N : Nat} {f : Nat → Int32} {i x : Int32} (hF : F a = .inl (gY d, N, .inl f)) (hin : vp_in i N) (hdg : decode cc pc = .ok (.bastore, 1)) (kk : gG X d b Q (va_up F a (.inl (gY d, N, .inl (upd f i.toNatClampNeg (vp_nar .byte x))))) k n (pc + 1) lv st) : gG X d b Q F k n pc lv (.int x :: .int i :: .ref a :: st) := fun H locs ls hH hS hL => by
  obtain ⟨L, hP, hD, h0⟩ := id hH
  obtain ⟨q, hm, hq⟩ := gH.at (d := d) (b := b) (H := H) h0 hF g0_a
  exact va_bast (D := d.1) hC.hx hC.hb hC.hv.2.1 hP hD hS q 1 hq rfl hin hdg (fun H1 locs1 hP1 hD1 hS1 => kk H1 locs1 ls (gH.set h0 hm hD hq hF hP1 hD1) hS1 hL)
theorem g_last (hC : gC own cc nL rt nm R d b X) {a N : Nat} {f : Nat → Int64} {i : Int32} {x : Int64} (hF : F a = .inl (gJ d, N, .inr (.inl f))) (hin : vp_in i N) (hdg : decode cc pc = .ok (.lastore, 1)) (kk : gG X d b Q (va_up F a (.inl (gJ d, N, .inr (.inl (vp_updL f i.toNatClampNeg x))))) k n (pc + 1) lv st) : gG X d b Q F k n pc lv (.long x :: .int i :: .ref a :: st) := fun H locs ls hH hS hL => by
  obtain ⟨L, hP, hD, h0⟩ := id hH
  obtain ⟨q, hm, hq⟩ := gH.at (d := d) (b := b) (H := H) h0 hF g0_a
  exact va_last (D := d.1) hC.hx hC.hb hC.hv.2.1 hP hD hS q 3 hq rfl hin hdg (fun H1 locs1 hP1 hD1 hS1 => kk H1 locs1 ls (gH.set h0 hm hD hq hF hP1 hD1) hS1 hL)
theorem g_lald (hC : gC own cc nL rt nm R d b X) {a N : Nat} {f : Nat → Int64} {i : Int32} (hF : F a = .inl (gJ d, N, .inr (.inl f))) (hin : vp_in i N) (hdg : decode cc pc = .ok (.laload, 1)) (kk : gG X d b Q F k n (pc + 1) lv (.long (f i.toNatClampNeg) :: st)) : gG X d b Q F k n pc lv (.int i :: .ref a :: st) := fun H locs ls hH hS hL => by
  obtain ⟨L, hP, hD, h0⟩ := id hH
  obtain ⟨q, hm, hq⟩ := gH.at (d := d) (b := b) (H := H) h0 hF g0_a
  exact va_lald (D := d.1) hC.hx hC.hb hC.hv.2.1 hP q 3 hq rfl hin hdg (kk H locs ls hH hS hL)
theorem g_aald (hC : gC own cc nL rt nm R d b X) {a N : Nat} {f : Nat → Option Nat} {i : Int32} (hF : F a = .inl (gO d, N, .inr (.inr (.inr (.inr f))))) (hin : vp_in i N) (hdg : decode cc pc = .ok (.aaload, 1)) (kk : gG X d b Q F k n (pc + 1) lv (va_rf (f i.toNatClampNeg) :: st)) : gG X d b Q F k n pc lv (.int i :: .ref a :: st) := fun H locs ls hH hS hL => by
  obtain ⟨L, hP, hD, h0⟩ := id hH
  obtain ⟨q, hm, hq⟩ := gH.at (d := d) (b := b) (H := H) h0 hF g0_a
  exact va_aldq (D := d.1) hC.hx hC.hb hC.hv.2.1 hP q 4 hq rfl hin hdg (kk H locs ls hH hS hL)
theorem g_aast (hC : gC own cc nL rt nm R d b X) {a N v : Nat} {f : Nat → Option Nat} {i : Int32} {v0 : Value} {vs : List Value} (hF : F a = .inl (gO d, N, .inr (.inr (.inr (.inr f))))) (hV : F v = .inr (4, v0 :: vs)) (hin : vp_in i N) (hdg : decode cc pc = .ok (.aastore, 1)) (kk : gG X d b Q (va_up F a (.inl (gO d, N, .inr (.inr (.inr (.inr (va_up f i.toNatClampNeg (some v)))))))) k n (pc + 1) lv st) : gG X d b Q F k n pc lv (.ref v :: .int i :: .ref a :: st) := fun H locs ls hH hS hL => by
  obtain ⟨L, hP, hD, h0⟩ := id hH
  obtain ⟨q, hm, hq⟩ := gH.at (d := d) (b := b) (H := H) h0 hF g0_a
  obtain ⟨q2, hm2, hq2⟩ := gH.at (d := d) (b := b) (H := H) h0 hV g0_o
  exact va_astq (D := d.1) (r := (RX4, TX4, 3)) hC.hx hC.hb hC.hv.2.1 hP hD hS q 4 q2 4 hq rfl hq2 rfl hin hdg (fun H1 locs1 hP1 hD1 hS1 => kk H1 locs1 ls (gH.set h0 hm hD hq hF hP1 hD1) hS1 hL)
theorem g_alen (hC : gC own cc nL rt nm R d b X) {a : Nat} {cA : ClassId} {x : vp_A} (t0 : Nat) {ty : FieldType} (hF : F a = .inl (cA, x)) (ht : (gtys d)[t0]? = some (cA, ty)) (hdg : decode cc pc = .ok (.arraylength, 1)) (kk : gG X d b Q F k n (pc + 1) lv (.int (nI x.1) :: st)) : gG X d b Q F k n pc lv (.ref a :: st) := fun H locs ls hH hS hL => by
  obtain ⟨L, hP, hD, h0⟩ := id hH
  obtain ⟨q, hm, hq⟩ := gH.at (d := d) (b := b) (H := H) h0 hF g0_a
  exact va_alen (D := d.1) hC.hx hC.hb hC.hv.2.1 hP q t0 hq ht rfl hdg (kk H locs ls hH hS hL)
theorem g_newa (hC : gC own cc nL rt nm R d b X) {atype : ArrayType} {cA : ClassId} (t0 : Nat) {i : Int32} {N : Nat} {a0 : vp_A} (hw : Cond.arrayClass (newarray.typeOf atype) ∈ gWs) (ht : (gtys d)[t0]? = some (cA, newarray.typeOf atype)) (h5 : t0 < 4) (ha : ∀ cA : ClassId, vp_cell cA a0 = arrV cA N (fun _ => defaultValue (newarray.typeOf atype))) (hn : ¬ i < 0) (hN : i.toNatClampNeg = N) (hbytes : N * componentBytes (newarray.typeOf atype) ≤ 536870912) (hk : k + 1 ≤ R.cells) (hs : n + N ≤ R.slots) (hdg : decode cc pc = .ok (.newarray atype, 2)) (kk : ∀ q : Nat, F q = g0 → gG X d b Q (va_up F q (.inl (cA, a0))) (k + 1) (n + N) (pc + 2) lv (.ref q :: st)) : gG X d b Q F k n pc lv (.int i :: st) := fun H locs ls hH hS hL => by
  obtain ⟨L, hP, hD, h0⟩ := id hH
  have hK := hC.hv.2.1
  refine va_newa (D := d.1) (cl := vwCl) (tys := gtys d) hC.hx hC.hb (hC.hts _ hw) rfl hK hP hD hS hC.A ha hn hN hbytes (by rw [hC.hR]; exact hk) (by rw [hC.hR]; exact hs) hdg (fun q cB H1 hK1 hP1 hD1 hS1 => ?_)
  have e : cB = cA := by
    have h1 := (hK1.2 5 (cB, newarray.typeOf atype) rfl).2
    have h2 := (hK.2 t0 _ ht).2
    cases atype <;> exact Option.some.inj (h1.symm.trans h2)
  subst e
  obtain ⟨e1, e2⟩ := gH.push h0 hP1 hD1
  exact kk q e1 H1 locs ls e2 hS1 hL
theorem g_newq (hC : gC own cc nL rt nm R d b X) {idx : Nat} {i : Int32} {N : Nat} (hw : Cond.classLink own idx RX4 ∈ gWs) (hn : ¬ i < 0) (hN : i.toNatClampNeg = N) (hbytes : N * 4 ≤ 536870912) (hk : k + 1 ≤ R.cells) (hs : n + N ≤ R.slots) (hdg : decode cc pc = .ok (.anewarray idx, 3)) (kk : ∀ q : Nat, F q = g0 → gG X d b Q (va_up F q (.inl (gO d, N, .inr (.inr (.inr (.inr (fun _ => none))))))) (k + 1) (n + N) (pc + 3) lv (.ref q :: st)) : gG X d b Q F k n pc lv (.int i :: st) := fun H locs ls hH hS hL => by
  obtain ⟨L, hP, hD, h0⟩ := id hH
  have hK := hC.hv.2.1
  refine va_newq (D := d.1) (cl := vwCl) (tys := gtys d) hC.hx hC.hb hC.how (hC.hts _ hw) hC.hv.2.2.2.1 hK hP hD hS hC.A hn hN hbytes (by rw [hC.hR]; exact hk) (by rw [hC.hR]; exact hs) hdg (fun q cB H1 hK1 hP1 hD1 hS1 => ?_)
  have e : cB = gO d := by
    obtain ⟨-, -, -, -, -, h1⟩ := (hK1.2 5 (cB, .object RX4) rfl).2
    obtain ⟨-, -, -, -, -, h2⟩ := (hK.2 4 (gO d, .object RX4) rfl).2
    exact Option.some.inj (h1.symm.trans h2)
  subst e
  obtain ⟨e1, e2⟩ := gH.push h0 hP1 hD1
  exact kk q e1 H1 locs ls e2 hS1 hL
end G1

-- CONTRACTS
def gR (lvl mc ms : Nat) : Room := { frames := lvl, cells := mc, slots := ms, locals := 64 * lvl }
abbrev gw (y : MethodName) (cc : ByteArray) (mL : Nat) (rt : Option FieldType) : List Cond := .code y cc mL rt :: gWs
/-- an int (a boolean, a char ..) comes back -/
def gMi (l : Launch) (d : gD) (b : Nat) (y : MethodName) (cc : ByteArray) (mL : Nat) (rt : FieldType) (lvl mc ms : Nat) (F : gM) (As : List Value) (post : Int32 → gM → Prop) : Prop :=
  Met l y (gw y cc mL (some rt)) (gR lvl mc ms) (va_Pc As (gB d b F)) (va_Qi post (gB d b) (fun q => b ≤ q)) mc ms (fun q => b ≤ q)
def gMv (l : Launch) (d : gD) (b : Nat) (y : MethodName) (cc : ByteArray) (mL : Nat) (lvl mc ms : Nat) (F : gM) (As : List Value) (post : gM → Prop) : Prop :=
  Met l y (gw y cc mL none) (gR lvl mc ms) (va_Pc As (gB d b F)) (va_Qv post (gB d b) (fun q => b ≤ q)) mc ms (fun q => b ≤ q)
def gMl (l : Launch) (d : gD) (b : Nat) (y : MethodName) (cc : ByteArray) (mL : Nat) (lvl mc ms : Nat) (F : gM) (As : List Value) (post : Int64 → gM → Prop) : Prop :=
  Met l y (gw y cc mL (some .long)) (gR lvl mc ms) (va_Pc As (gB d b F)) (va_Ql post (gB d b) (fun q => b ≤ q)) mc ms (fun q => b ≤ q)
def gMq (l : Launch) (d : gD) (b : Nat) (y : MethodName) (cc : ByteArray) (mL : Nat) (rt : FieldType) (lvl mc ms : Nat) (F : gM) (As : List Value) (post : Option Nat → gM → Prop) : Prop :=
  Met l y (gw y cc mL (some rt)) (gR lvl mc ms) (va_Pc As (gB d b F)) (va_Qq post (gB d b) (fun q => b ≤ q)) mc ms (fun q => b ≤ q)
theorem gWs_all {y : MethodName} {cc : ByteArray} {mL : Nat} {rt : Option FieldType} (h : Cond.code y cc mL rt ∈ gWs) : GoodIn gWs (gw y cc mL rt) := fun w hw => by
  have hw' : w ∈ gWs := (List.mem_cons.mp hw).elim (fun e => by rw [e]; exact h) id
  exact ⟨hw', good_of_word (gWs_good w hw')⟩
/-- a body's start -/
theorem gM_of {Qc : Array Value → State → Outcome → State → Prop} {l : Launch} {d : gD} {b : Nat} {y : MethodName} {cc : ByteArray} {mL : Nat} {rt : Option FieldType} {lvl mc ms : Nat} {F : gM} {As : List Value} (hy : plainName y.cls = true) {lv : List (Option Value)} (hlv : lv.length = mL) (hn : (lg_sl As).length ≤ mL) (hl : ∀ (i : Nat) (v : Value), lv[i]? = some (some v) → (i, v) ∈ lv_args 0 As)
    (body : ∀ X : gX, X.la = l → gC y.cls cc mL rt y.name (gR lvl mc ms) d b X → gG X d b (MQ X.be Qc X.ar X.st mc ms (fun q => b ≤ q)) F 0 0 0 lv []) : Met l y (gw y cc mL rt) (gR lvl mc ms) (va_Pc As (gB d b F)) Qc mc ms (fun q => b ≤ q) := by
  refine Met.ofW (cc := cc) (maxL := mL) (ret := rt) hy rfl ?_
  intro p e s m args below meth c s₁ B hml hv
  obtain ⟨rfl, hV, hH⟩ := hv
  have hts := atoms_spec (ws := gw y cc mL rt) B.pre
  have hown : s.vm.findClass y.cls = some m.cls := findClass_of_methodNamed B.named
  have hent := lv_entry As (n := mL) hn
  rw [lg_entry_eq]
  exact body (p, l, e, (headSpec (gw y cc mL rt) (gR lvl mc ms)).room, s, m, As.toArray, below, meth, c) rfl ⟨B.exec, B.bytes, hml, hown, fun w hw => hts w (List.mem_cons_of_mem _ hw), hV, B.notSynchronized, B.returns, (name_of_methodNamed B.named B.method).1, rfl⟩ s.heap [] _ hH va_S.rf ⟨hent.1.trans hlv.symm, hent.2.1, fun i v hi => hent.2.2 (i, v) (hl i v hi)⟩
section G2
variable {own : String} {cc : ByteArray} {nL : Nat} {rt : Option FieldType} {nm : String} {R : Room} {d : gD} {b : Nat} {X : gX} {F : gM} {k n pc : Nat} {lv : List (Option Value)} {st : List Value} {mc ms : Nat}
theorem gE_B {own : String} {cc : ByteArray} {nL : Nat} {rt : Option FieldType} {nm : String} {R : Room} (hC : gC own cc nL rt nm R d b X) {H : Heap} {locs : List Loc} (hH : gH d b F H) (hS : va_S (fun q => b ≤ q) X.st.heap H locs) {t : State} (ht : t.heap = H) (hW : X.st.WarmedH t.vm) : gB d b F t := ⟨hC.at hS ht hW, by rw [ht]; exact hH⟩
theorem g_iret {ty : FieldType} (hC : gC own cc nL (some ty) nm R d b X) {post : Int32 → gM → Prop} {v : Int32} (hn : narrow ty (.int v) = .int v) (hp : post v F) (hk : k ≤ mc) (hs : n ≤ ms) (hdg : decode cc pc = .ok (.ireturn, 1)) : gG X d b (MQ X.be (va_Qi post (gB d b) (fun q => b ≤ q)) X.ar X.st mc ms (fun q => b ≤ q)) F k n pc lv [.int v] := fun H locs ls hH hS hL =>
  W.widen hk hs (W.zret (v := v) hC.hx hC.hb hC.hrt hn (fun t ht hW => ⟨⟨v, F, rfl, hp, gE_B hC hH hS ht hW⟩, hS.F ht⟩) hS.2.2 hdg hC.hlk)
theorem g_vret (hC : gC own cc nL none nm R d b X) {post : gM → Prop} (hp : post F) (hk : k ≤ mc) (hs : n ≤ ms) (hdg : decode cc pc = .ok (.return_, 1)) : gG X d b (MQ X.be (va_Qv post (gB d b) (fun q => b ≤ q)) X.ar X.st mc ms (fun q => b ≤ q)) F k n pc lv [] := fun H locs ls hH hS hL =>
  W.widen hk hs (W.vret hC.hx hC.hb hC.hrt (fun t ht hW => ⟨⟨F, rfl, hp, gE_B hC hH hS ht hW⟩, hS.F ht⟩) hS.2.2 hdg hC.hlk)
theorem g_lret (hC : gC own cc nL (some .long) nm R d b X) {post : Int64 → gM → Prop} {v : Int64} (hp : post v F) (hk : k ≤ mc) (hs : n ≤ ms) (hdg : decode cc pc = .ok (.lreturn, 1)) : gG X d b (MQ X.be (va_Ql post (gB d b) (fun q => b ≤ q)) X.ar X.st mc ms (fun q => b ≤ q)) F k n pc lv [.long v] := fun H locs ls hH hS hL =>
  W.widen hk hs (W.lret (v := v) hC.hx hC.hb hC.hrt (fun t ht hW => ⟨⟨v, F, rfl, hp, gE_B hC hH hS ht hW⟩, hS.F ht⟩) hS.2.2 hdg hC.hlk)
theorem g_aret {rt0 : FieldType} (hC : gC own cc nL (some rt0) nm R d b X) {post : Option Nat → gM → Prop} {v : Option Nat} (hrt : (∃ n, rt0 = .object n) ∨ ∃ t, rt0 = .array t) (hp : post v F) (hk : k ≤ mc) (hs : n ≤ ms) (hdg : decode cc pc = .ok (.areturn, 1)) : gG X d b (MQ X.be (va_Qq post (gB d b) (fun q => b ≤ q)) X.ar X.st mc ms (fun q => b ≤ q)) F k n pc lv [va_rf v] := fun H locs ls hH hS hL =>
  W.widen hk hs (W.aret (v := va_rf v) hC.hx hC.hb hC.hrt hrt (va_rf_or v) (fun t ht hW => ⟨⟨v, F, rfl, hp, gE_B hC hH hS ht hW⟩, hS.F ht⟩) hS.2.2 hdg hC.hlk)
/-- links of calls -/
def gCV (own : String) (idx : Nat) (y : MethodName) (cc : ByteArray) (mL : Nat) (rt : Option FieldType) (nA : Nat) : Prop := GoodIn gWs (wsV own idx y.cls y (gw y cc mL rt)) ∧ (y.cls = y.cls ∧ y.cls ≠ "java/lang/invoke/MethodHandle" ∧ y.cls ≠ "java/lang/invoke/VarHandle" ∧ (parseMethodDescriptor y.desc).map (fun d => d.parameters.length) = some nA)
def gCI (own : String) (idx : Nat) (y : MethodName) (cc : ByteArray) (mL : Nat) (nA : Nat) : Prop := GoodIn gWs (gw y cc mL none) ∧ Cond.initialized y.cls ∈ gWs ∧ Cond.methodLink own idx y ∈ gWs ∧ Cond.instanceMethod y ∈ gWs ∧ y.name = "<init>" ∧ (y.cls ≠ "java/lang/invoke/MethodHandle" ∧ y.cls ≠ "java/lang/invoke/VarHandle" ∧ (parseMethodDescriptor y.desc).map (fun d => d.parameters.length) = some nA)
def gCS (own : String) (idx : Nat) (y : MethodName) (cc : ByteArray) (mL : Nat) (rt : Option FieldType) (nA : Nat) : Prop := GoodIn gWs (va_wsS own idx y (gw y cc mL rt)) ∧ (y.cls ≠ "java/lang/invoke/MethodHandle" ∧ y.cls ≠ "java/lang/invoke/VarHandle" ∧ (parseMethodDescriptor y.desc).map (fun d => d.parameters.length) = some nA)
/-- of nest mates: the place in gNs -/
def gCIN (own : String) (idx i : Nat) (y : MethodName) (cc : ByteArray) (mL : Nat) (nA : Nat) : Prop := ∃ host : String, gNs[i]? = some (own, idx, y, host) ∧ GoodIn gWs (gw y cc mL none) ∧ Cond.initialized y.cls ∈ gWs ∧ Cond.instanceMethod y ∈ gWs ∧ y.name = "<init>" ∧ (y.cls ≠ "java/lang/invoke/MethodHandle" ∧ y.cls ≠ "java/lang/invoke/VarHandle" ∧ (parseMethodDescriptor y.desc).map (fun d => d.parameters.length) = some nA)
def gCSN (own : String) (idx i : Nat) (y : MethodName) (cc : ByteArray) (mL : Nat) (rt : Option FieldType) (nA : Nat) : Prop := ∃ host : String, gNs[i]? = some (own, idx, y, host) ∧ GoodIn gWs (gw y cc mL rt) ∧ Cond.initialized y.cls ∈ gWs ∧ Cond.static y ∈ gWs ∧ (y.cls ≠ "java/lang/invoke/MethodHandle" ∧ y.cls ≠ "java/lang/invoke/VarHandle" ∧ (parseMethodDescriptor y.desc).map (fun d => d.parameters.length) = some nA)
/-- a callee's room in the caller's -/
def gFit (R : Room) (lvl mL k n mc ms : Nat) : Prop := (lvl + 1 ≤ R.frames ∧ 8 + (mL + 11) + 64 * lvl ≤ R.locals) ∧ k + mc ≤ R.cells ∧ n + ms ≤ R.slots
theorem g_recv {ci a : Nat} {C : String} {T : u_T} {N : Nat} {v0 : Value} {fs : List Value} (hC : gC own cc nL rt nm R d b X) (hc : vwCl[ci]? = some (C, T, N)) (hF : F a = .inr (ci, v0 :: fs)) {H : Heap} (hH : gH d b F H) : ∃ cell : Cell, H[a]? = some cell ∧ cell.vm.isStatics = false ∧ X.st.vm.findClass C = some cell.cls := by
  obtain ⟨L, hP, hD, h0⟩ := hH
  obtain ⟨q, hm, hq⟩ := gH.at (d := d) (b := b) (H := H) h0 hF g0_o
  exact va_recv hC.hv.2.1 hP hc hq

theorem g_callVv {Q : State → Prop} (hC : gC own cc nL rt nm R d b X) {y : MethodName} {c2 : ByteArray} {mL nA lvl idx : Nat} {As : List Value} {post : gM → Prop} {a ci N : Nat} {T : u_T} {v0 : Value} {fs : List Value} (hc : vwCl[ci]? = some (y.cls, T, N)) (hF : F a = .inr (ci, v0 :: fs)) (hm : gMv X.la d b y c2 mL lvl mc ms F (.ref a :: As) post) (hl : gCV own idx y c2 mL none nA) (hA : As.length = nA) (hn : nL = lv.length) (hr : (st.map fun v => v.category).sum ≤ 8) (hf : gFit R lvl mL k n mc ms) (hdg : decode cc pc = .ok (.invokevirtual idx, 3)) (kk : ∀ F' : gM, post F' → gG X d b Q F' (k + mc) (n + ms) (pc + 3) lv st) : gG X d b Q F k n pc lv (As.reverse ++ .ref a :: st) := fun H locs ls hH hS hL => by
  exact va_callv (va_runV (As := As) (rest := st) ⟨hC.hx, hC.hb, hC.hml, hC.how, hC.hts⟩ hm (cwV nA hC.hts hl.1 rfl rfl rfl hl.2 (by rw [hC.hR]; exact hf.1)) ⟨gB.blind, g_recv hC hc hF hH, fun U hU hW => ⟨rfl, gE_B hC hH hS hU hW⟩⟩ rfl hA (hL.1.trans hn.symm) rfl (lv_room hr) hdg (by rw [hC.hR]; exact hf.2)) hS (fun q _ h => h) (fun q h => h) (fun u t H1 locs1 ht hvm hp hB hz hk1 hS1 => kk u hp H1 locs1 ls (by rw [← ht]; exact hB.2) hS1 hL)
theorem g_callSv {Q : State → Prop} (hC : gC own cc nL rt nm R d b X) {y : MethodName} {c2 : ByteArray} {mL nA lvl idx : Nat} {As : List Value} {post : gM → Prop} (hm : gMv X.la d b y c2 mL lvl mc ms F As post) (hl : gCS own idx y c2 mL none nA) (hA : As.length = nA) (hn : nL = lv.length) (hr : (st.map fun v => v.category).sum ≤ 8) (hf : gFit R lvl mL k n mc ms) (hdg : decode cc pc = .ok (.invokestatic idx, 3)) (kk : ∀ F' : gM, post F' → gG X d b Q F' (k + mc) (n + ms) (pc + 3) lv st) : gG X d b Q F k n pc lv (As.reverse ++ st) := fun H locs ls hH hS hL => by
  exact va_callv (va_runS (As := As) (rest := st) ⟨hC.hx, hC.hb, hC.hml, hC.how, hC.hts⟩ hm (va_cwS nA hC.hts hl.1 rfl rfl rfl hl.2 (by rw [hC.hR]; exact hf.1)) ⟨gB.blind, fun U hU hW => ⟨rfl, gE_B hC hH hS hU hW⟩⟩ rfl hA (hL.1.trans hn.symm) rfl (lv_room hr) hdg (by rw [hC.hR]; exact hf.2)) hS (fun q _ h => h) (fun q h => h) (fun u t H1 locs1 ht hvm hp hB hz hk1 hS1 => kk u hp H1 locs1 ls (by rw [← ht]; exact hB.2) hS1 hL)
theorem g_callIv {Q : State → Prop} (hC : gC own cc nL rt nm R d b X) {y : MethodName} {c2 : ByteArray} {mL nA lvl idx : Nat} {As : List Value} {post : gM → Prop} {a : Nat} (hm : gMv X.la d b y c2 mL lvl mc ms F (.ref a :: As) post) (hl : gCI own idx y c2 mL nA) (hA : As.length = nA) (hn : nL = lv.length) (hr : (st.map fun v => v.category).sum ≤ 8) (hf : gFit R lvl mL k n mc ms) (hdg : decode cc pc = .ok (.invokespecial idx, 3)) (kk : ∀ F' : gM, post F' → gG X d b Q F' (k + mc) (n + ms) (pc + 3) lv st) : gG X d b Q F k n pc lv (As.reverse ++ .ref a :: st) := fun H locs ls hH hS hL => by
  exact va_callv (va_runI (As := As) (rest := st) ⟨hC.hx, hC.hb, hC.hml, hC.how, hC.hts⟩ hm (cwI nA hC.hts hl.1 rfl rfl rfl (hC.hts _ hl.2.1) (hC.hts _ hl.2.2.1) (hC.hts _ hl.2.2.2.1) hl.2.2.2.2.1 hl.2.2.2.2.2 (by rw [hC.hR]; exact hf.1)) ⟨gB.blind, fun U hU hW => ⟨rfl, gE_B hC hH hS hU hW⟩⟩ rfl hA (hL.1.trans hn.symm) rfl (lv_room hr) hdg (by rw [hC.hR]; exact hf.2)) hS (fun q _ h => h) (fun q h => h) (fun u t H1 locs1 ht hvm hp hB hz hk1 hS1 => kk u hp H1 locs1 ls (by rw [← ht]; exact hB.2) hS1 hL)
theorem g_callINv {Q : State → Prop} (hC : gC own cc nL rt nm R d b X) {y : MethodName} {c2 : ByteArray} {mL nA lvl idx : Nat} {ni : Nat} {As : List Value} {post : gM → Prop} {a : Nat} (hm : gMv X.la d b y c2 mL lvl mc ms F (.ref a :: As) post) (hl : gCIN own idx ni y c2 mL nA) (hA : As.length = nA) (hn : nL = lv.length) (hr : (st.map fun v => v.category).sum ≤ 8) (hf : gFit R lvl mL k n mc ms) (hdg : decode cc pc = .ok (.invokespecial idx, 3)) (kk : ∀ F' : gM, post F' → gG X d b Q F' (k + mc) (n + ms) (pc + 3) lv st) : gG X d b Q F k n pc lv (As.reverse ++ .ref a :: st) := fun H locs ls hH hS hL => by
  obtain ⟨host, z1, z2, z3, z4, z5, z6⟩ := hl
  exact va_callv (va_runIN (As := As) (rest := st) ⟨hC.hx, hC.hb, hC.hml, hC.how, hC.hts⟩ hm ⟨va_cnB nA hC.hts z2 rfl rfl rfl (hC.hv.2.2.1 _ (List.mem_of_getElem? z1)) (hC.hts _ z3) z6 (by rw [hC.hR]; exact hf.1), z5, hC.hts _ z4⟩ ⟨gB.blind, fun U hU hW => ⟨rfl, gE_B hC hH hS hU hW⟩⟩ rfl hA (hL.1.trans hn.symm) rfl (lv_room hr) hdg (by rw [hC.hR]; exact hf.2)) hS (fun q _ h => h) (fun q h => h) (fun u t H1 locs1 ht hvm hp hB hz hk1 hS1 => kk u hp H1 locs1 ls (by rw [← ht]; exact hB.2) hS1 hL)
theorem g_callSNv {Q : State → Prop} (hC : gC own cc nL rt nm R d b X) {y : MethodName} {c2 : ByteArray} {mL nA lvl idx : Nat} {ni : Nat} {As : List Value} {post : gM → Prop} (hm : gMv X.la d b y c2 mL lvl mc ms F As post) (hl : gCSN own idx ni y c2 mL none nA) (hA : As.length = nA) (hn : nL = lv.length) (hr : (st.map fun v => v.category).sum ≤ 8) (hf : gFit R lvl mL k n mc ms) (hdg : decode cc pc = .ok (.invokestatic idx, 3)) (kk : ∀ F' : gM, post F' → gG X d b Q F' (k + mc) (n + ms) (pc + 3) lv st) : gG X d b Q F k n pc lv (As.reverse ++ st) := fun H locs ls hH hS hL => by
  obtain ⟨host, z1, z2, z3, z4, z5⟩ := hl
  exact va_callv (va_runSN (As := As) (rest := st) ⟨hC.hx, hC.hb, hC.hml, hC.how, hC.hts⟩ hm ⟨va_cnB nA hC.hts z2 rfl rfl rfl (hC.hv.2.2.1 _ (List.mem_of_getElem? z1)) (hC.hts _ z3) z5 (by rw [hC.hR]; exact hf.1), hC.hts _ z4, trivial⟩ ⟨gB.blind, fun U hU hW => ⟨rfl, gE_B hC hH hS hU hW⟩⟩ rfl hA (hL.1.trans hn.symm) rfl (lv_room hr) hdg (by rw [hC.hR]; exact hf.2)) hS (fun q _ h => h) (fun q h => h) (fun u t H1 locs1 ht hvm hp hB hz hk1 hS1 => kk u hp H1 locs1 ls (by rw [← ht]; exact hB.2) hS1 hL)
theorem g_callVi {Q : State → Prop} (hC : gC own cc nL rt nm R d b X) {y : MethodName} {c2 : ByteArray} {mL nA lvl idx : Nat} {rt0 : FieldType} {As : List Value} {post : Int32 → gM → Prop} {a ci N : Nat} {T : u_T} {v0 : Value} {fs : List Value} (hc : vwCl[ci]? = some (y.cls, T, N)) (hF : F a = .inr (ci, v0 :: fs)) (hm : gMi X.la d b y c2 mL rt0 lvl mc ms F (.ref a :: As) post) (hl : gCV own idx y c2 mL (some rt0) nA) (hA : As.length = nA) (hn : nL = lv.length) (hr : (st.map fun v => v.category).sum ≤ 8) (hf : gFit R lvl mL k n mc ms) (hdg : decode cc pc = .ok (.invokevirtual idx, 3)) (kk : ∀ (r : Int32) (F' : gM), post r F' → gG X d b Q F' (k + mc) (n + ms) (pc + 3) lv (.int r :: st)) : gG X d b Q F k n pc lv (As.reverse ++ .ref a :: st) := fun H locs ls hH hS hL => by
  exact va_calli (va_runV (As := As) (rest := st) ⟨hC.hx, hC.hb, hC.hml, hC.how, hC.hts⟩ hm (cwV nA hC.hts hl.1 rfl rfl rfl hl.2 (by rw [hC.hR]; exact hf.1)) ⟨gB.blind, g_recv hC hc hF hH, fun U hU hW => ⟨rfl, gE_B hC hH hS hU hW⟩⟩ rfl hA (hL.1.trans hn.symm) rfl (lv_room hr) hdg (by rw [hC.hR]; exact hf.2)) hS (fun q _ h => h) (fun q h => h) (fun r u t H1 locs1 ht hvm hp hB hz hk1 hS1 => kk r u hp H1 locs1 ls (by rw [← ht]; exact hB.2) hS1 hL)
theorem g_callSi {Q : State → Prop} (hC : gC own cc nL rt nm R d b X) {y : MethodName} {c2 : ByteArray} {mL nA lvl idx : Nat} {rt0 : FieldType} {As : List Value} {post : Int32 → gM → Prop} (hm : gMi X.la d b y c2 mL rt0 lvl mc ms F As post) (hl : gCS own idx y c2 mL (some rt0) nA) (hA : As.length = nA) (hn : nL = lv.length) (hr : (st.map fun v => v.category).sum ≤ 8) (hf : gFit R lvl mL k n mc ms) (hdg : decode cc pc = .ok (.invokestatic idx, 3)) (kk : ∀ (r : Int32) (F' : gM), post r F' → gG X d b Q F' (k + mc) (n + ms) (pc + 3) lv (.int r :: st)) : gG X d b Q F k n pc lv (As.reverse ++ st) := fun H locs ls hH hS hL => by
  exact va_calli (va_runS (As := As) (rest := st) ⟨hC.hx, hC.hb, hC.hml, hC.how, hC.hts⟩ hm (va_cwS nA hC.hts hl.1 rfl rfl rfl hl.2 (by rw [hC.hR]; exact hf.1)) ⟨gB.blind, fun U hU hW => ⟨rfl, gE_B hC hH hS hU hW⟩⟩ rfl hA (hL.1.trans hn.symm) rfl (lv_room hr) hdg (by rw [hC.hR]; exact hf.2)) hS (fun q _ h => h) (fun q h => h) (fun r u t H1 locs1 ht hvm hp hB hz hk1 hS1 => kk r u hp H1 locs1 ls (by rw [← ht]; exact hB.2) hS1 hL)
theorem g_callSNi {Q : State → Prop} (hC : gC own cc nL rt nm R d b X) {y : MethodName} {c2 : ByteArray} {mL nA lvl idx : Nat} {rt0 : FieldType} {ni : Nat} {As : List Value} {post : Int32 → gM → Prop} (hm : gMi X.la d b y c2 mL rt0 lvl mc ms F As post) (hl : gCSN own idx ni y c2 mL (some rt0) nA) (hA : As.length = nA) (hn : nL = lv.length) (hr : (st.map fun v => v.category).sum ≤ 8) (hf : gFit R lvl mL k n mc ms) (hdg : decode cc pc = .ok (.invokestatic idx, 3)) (kk : ∀ (r : Int32) (F' : gM), post r F' → gG X d b Q F' (k + mc) (n + ms) (pc + 3) lv (.int r :: st)) : gG X d b Q F k n pc lv (As.reverse ++ st) := fun H locs ls hH hS hL => by
  obtain ⟨host, z1, z2, z3, z4, z5⟩ := hl
  exact va_calli (va_runSN (As := As) (rest := st) ⟨hC.hx, hC.hb, hC.hml, hC.how, hC.hts⟩ hm ⟨va_cnB nA hC.hts z2 rfl rfl rfl (hC.hv.2.2.1 _ (List.mem_of_getElem? z1)) (hC.hts _ z3) z5 (by rw [hC.hR]; exact hf.1), hC.hts _ z4, trivial⟩ ⟨gB.blind, fun U hU hW => ⟨rfl, gE_B hC hH hS hU hW⟩⟩ rfl hA (hL.1.trans hn.symm) rfl (lv_room hr) hdg (by rw [hC.hR]; exact hf.2)) hS (fun q _ h => h) (fun q h => h) (fun r u t H1 locs1 ht hvm hp hB hz hk1 hS1 => kk r u hp H1 locs1 ls (by rw [← ht]; exact hB.2) hS1 hL)
theorem g_callVl {Q : State → Prop} (hC : gC own cc nL rt nm R d b X) {y : MethodName} {c2 : ByteArray} {mL nA lvl idx : Nat} {As : List Value} {post : Int64 → gM → Prop} {a ci N : Nat} {T : u_T} {v0 : Value} {fs : List Value} (hc : vwCl[ci]? = some (y.cls, T, N)) (hF : F a = .inr (ci, v0 :: fs)) (hm : gMl X.la d b y c2 mL lvl mc ms F (.ref a :: As) post) (hl : gCV own idx y c2 mL (some .long) nA) (hA : As.length = nA) (hn : nL = lv.length) (hr : (st.map fun v => v.category).sum ≤ 8) (hf : gFit R lvl mL k n mc ms) (hdg : decode cc pc = .ok (.invokevirtual idx, 3)) (kk : ∀ (r : Int64) (F' : gM), post r F' → gG X d b Q F' (k + mc) (n + ms) (pc + 3) lv (.long r :: st)) : gG X d b Q F k n pc lv (As.reverse ++ .ref a :: st) := fun H locs ls hH hS hL => by
  exact va_calll (va_runV (As := As) (rest := st) ⟨hC.hx, hC.hb, hC.hml, hC.how, hC.hts⟩ hm (cwV nA hC.hts hl.1 rfl rfl rfl hl.2 (by rw [hC.hR]; exact hf.1)) ⟨gB.blind, g_recv hC hc hF hH, fun U hU hW => ⟨rfl, gE_B hC hH hS hU hW⟩⟩ rfl hA (hL.1.trans hn.symm) rfl (lv_room hr) hdg (by rw [hC.hR]; exact hf.2)) hS (fun q _ h => h) (fun q h => h) (fun r u t H1 locs1 ht hvm hp hB hz hk1 hS1 => kk r u hp H1 locs1 ls (by rw [← ht]; exact hB.2) hS1 hL)
theorem g_callSl {Q : State → Prop} (hC : gC own cc nL rt nm R d b X) {y : MethodName} {c2 : ByteArray} {mL nA lvl idx : Nat} {As : List Value} {post : Int64 → gM → Prop} (hm : gMl X.la d b y c2 mL lvl mc ms F As post) (hl : gCS own idx y c2 mL (some .long) nA) (hA : As.length = nA) (hn : nL = lv.length) (hr : (st.map fun v => v.category).sum ≤ 8) (hf : gFit R lvl mL k n mc ms) (hdg : decode cc pc = .ok (.invokestatic idx, 3)) (kk : ∀ (r : Int64) (F' : gM), post r F' → gG X d b Q F' (k + mc) (n + ms) (pc + 3) lv (.long r :: st)) : gG X d b Q F k n pc lv (As.reverse ++ st) := fun H locs ls hH hS hL => by
  exact va_calll (va_runS (As := As) (rest := st) ⟨hC.hx, hC.hb, hC.hml, hC.how, hC.hts⟩ hm (va_cwS nA hC.hts hl.1 rfl rfl rfl hl.2 (by rw [hC.hR]; exact hf.1)) ⟨gB.blind, fun U hU hW => ⟨rfl, gE_B hC hH hS hU hW⟩⟩ rfl hA (hL.1.trans hn.symm) rfl (lv_room hr) hdg (by rw [hC.hR]; exact hf.2)) hS (fun q _ h => h) (fun q h => h) (fun r u t H1 locs1 ht hvm hp hB hz hk1 hS1 => kk r u hp H1 locs1 ls (by rw [← ht]; exact hB.2) hS1 hL)
theorem g_callSNl {Q : State → Prop} (hC : gC own cc nL rt nm R d b X) {y : MethodName} {c2 : ByteArray} {mL nA lvl idx : Nat} {ni : Nat} {As : List Value} {post : Int64 → gM → Prop} (hm : gMl X.la d b y c2 mL lvl mc ms F As post) (hl : gCSN own idx ni y c2 mL (some .long) nA) (hA : As.length = nA) (hn : nL = lv.length) (hr : (st.map fun v => v.category).sum ≤ 8) (hf : gFit R lvl mL k n mc ms) (hdg : decode cc pc = .ok (.invokestatic idx, 3)) (kk : ∀ (r : Int64) (F' : gM), post r F' → gG X d b Q F' (k + mc) (n + ms) (pc + 3) lv (.long r :: st)) : gG X d b Q F k n pc lv (As.reverse ++ st) := fun H locs ls hH hS hL => by
  obtain ⟨host, z1, z2, z3, z4, z5⟩ := hl
  exact va_calll (va_runSN (As := As) (rest := st) ⟨hC.hx, hC.hb, hC.hml, hC.how, hC.hts⟩ hm ⟨va_cnB nA hC.hts z2 rfl rfl rfl (hC.hv.2.2.1 _ (List.mem_of_getElem? z1)) (hC.hts _ z3) z5 (by rw [hC.hR]; exact hf.1), hC.hts _ z4, trivial⟩ ⟨gB.blind, fun U hU hW => ⟨rfl, gE_B hC hH hS hU hW⟩⟩ rfl hA (hL.1.trans hn.symm) rfl (lv_room hr) hdg (by rw [hC.hR]; exact hf.2)) hS (fun q _ h => h) (fun q h => h) (fun r u t H1 locs1 ht hvm hp hB hz hk1 hS1 => kk r u hp H1 locs1 ls (by rw [← ht]; exact hB.2) hS1 hL)
theorem g_callVq {Q : State → Prop} (hC : gC own cc nL rt nm R d b X) {y : MethodName} {c2 : ByteArray} {mL nA lvl idx : Nat} {rt0 : FieldType} {As : List Value} {post : Option Nat → gM → Prop} {a ci N : Nat} {T : u_T} {v0 : Value} {fs : List Value} (hc : vwCl[ci]? = some (y.cls, T, N)) (hF : F a = .inr (ci, v0 :: fs)) (hm : gMq X.la d b y c2 mL rt0 lvl mc ms F (.ref a :: As) post) (hl : gCV own idx y c2 mL (some rt0) nA) (hA : As.length = nA) (hn : nL = lv.length) (hr : (st.map fun v => v.category).sum ≤ 8) (hf : gFit R lvl mL k n mc ms) (hdg : decode cc pc = .ok (.invokevirtual idx, 3)) (kk : ∀ (r : Option Nat) (F' : gM), post r F' → gG X d b Q F' (k + mc) (n + ms) (pc + 3) lv (va_rf r :: st)) : gG X d b Q F k n pc lv (As.reverse ++ .ref a :: st) := fun H locs ls hH hS hL => by
  exact va_callq (va_runV (As := As) (rest := st) ⟨hC.hx, hC.hb, hC.hml, hC.how, hC.hts⟩ hm (cwV nA hC.hts hl.1 rfl rfl rfl hl.2 (by rw [hC.hR]; exact hf.1)) ⟨gB.blind, g_recv hC hc hF hH, fun U hU hW => ⟨rfl, gE_B hC hH hS hU hW⟩⟩ rfl hA (hL.1.trans hn.symm) rfl (lv_room hr) hdg (by rw [hC.hR]; exact hf.2)) hS (fun q _ h => h) (fun q h => h) (fun r u t H1 locs1 ht hvm hp hB hz hk1 hS1 => kk r u hp H1 locs1 ls (by rw [← ht]; exact hB.2) hS1 hL)
theorem g_callSq {Q : State → Prop} (hC : gC own cc nL rt nm R d b X) {y : MethodName} {c2 : ByteArray} {mL nA lvl idx : Nat} {rt0 : FieldType} {As : List Value} {post : Option Nat → gM → Prop} (hm : gMq X.la d b y c2 mL rt0 lvl mc ms F As post) (hl : gCS own idx y c2 mL (some rt0) nA) (hA : As.length = nA) (hn : nL = lv.length) (hr : (st.map fun v => v.category).sum ≤ 8) (hf : gFit R lvl mL k n mc ms) (hdg : decode cc pc = .ok (.invokestatic idx, 3)) (kk : ∀ (r : Option Nat) (F' : gM), post r F' → gG X d b Q F' (k + mc) (n + ms) (pc + 3) lv (va_rf r :: st)) : gG X d b Q F k n pc lv (As.reverse ++ st) := fun H locs ls hH hS hL => by
  exact va_callq (va_runS (As := As) (rest := st) ⟨hC.hx, hC.hb, hC.hml, hC.how, hC.hts⟩ hm (va_cwS nA hC.hts hl.1 rfl rfl rfl hl.2 (by rw [hC.hR]; exact hf.1)) ⟨gB.blind, fun U hU hW => ⟨rfl, gE_B hC hH hS hU hW⟩⟩ rfl hA (hL.1.trans hn.symm) rfl (lv_room hr) hdg (by rw [hC.hR]; exact hf.2)) hS (fun q _ h => h) (fun q h => h) (fun r u t H1 locs1 ht hvm hp hB hz hk1 hS1 => kk r u hp H1 locs1 ls (by rw [← ht]; exact hB.2) hS1 hL)
theorem g_callSNq {Q : State → Prop} (hC : gC own cc nL rt nm R d b X) {y : MethodName} {c2 : ByteArray} {mL nA lvl idx : Nat} {rt0 : FieldType} {ni : Nat} {As : List Value} {post : Option Nat → gM → Prop} (hm : gMq X.la d b y c2 mL rt0 lvl mc ms F As post) (hl : gCSN own idx ni y c2 mL (some rt0) nA) (hA : As.length = nA) (hn : nL = lv.length) (hr : (st.map fun v => v.category).sum ≤ 8) (hf : gFit R lvl mL k n mc ms) (hdg : decode cc pc = .ok (.invokestatic idx, 3)) (kk : ∀ (r : Option Nat) (F' : gM), post r F' → gG X d b Q F' (k + mc) (n + ms) (pc + 3) lv (va_rf r :: st)) : gG X d b Q F k n pc lv (As.reverse ++ st) := fun H locs ls hH hS hL => by
  obtain ⟨host, z1, z2, z3, z4, z5⟩ := hl
  exact va_callq (va_runSN (As := As) (rest := st) ⟨hC.hx, hC.hb, hC.hml, hC.how, hC.hts⟩ hm ⟨va_cnB nA hC.hts z2 rfl rfl rfl (hC.hv.2.2.1 _ (List.mem_of_getElem? z1)) (hC.hts _ z3) z5 (by rw [hC.hR]; exact hf.1), hC.hts _ z4, trivial⟩ ⟨gB.blind, fun U hU hW => ⟨rfl, gE_B hC hH hS hU hW⟩⟩ rfl hA (hL.1.trans hn.symm) rfl (lv_room hr) hdg (by rw [hC.hR]; exact hf.2)) hS (fun q _ h => h) (fun q h => h) (fun r u t H1 locs1 ht hvm hp hB hz hk1 hS1 => kk r u hp H1 locs1 ls (by rw [← ht]; exact hB.2) hS1 hL)
end G2
