/-! THE CHECK: COMMANDS -/
section CO
variable {s0 : zS} {kids : Nat → List Nat} {up sz : Nat → Nat} {root N : Nat} {Qc : zS → Prop}
/-- an expression's task, a command's -/
def tyK (K : Nat → Int) (c : Nat) : Int := if K c ≤ 12 then 3 else 2
theorem tyK.E {K : Nat → Int} {c : Nat} (h : kE (K c)) : tyK K c = 3 := if_pos h.2
theorem tyK.C {K : Nat → Int} {c : Nat} (h : kC (K c)) : tyK K c = 2 := if_neg (by have := h.1; omega)
/-- a command's kids by their kinds: all are done -/
theorem tC_ks (h : fF s0 kids up sz [root] N) (hN : N ≤ 2700) {n : Nat} (hr : rch kids root n) (hK : ([21, 22, 23, 24, 33] : List Int).contains (za s0 25 n) = true) (hEC : ∀ c ∈ kids n, kE (za s0 25 c) ∨ kC (za s0 25 c)) (iE : ∀ c ∈ kids n, kE (za s0 25 c) → tri s0 kids up sz root N Qc 1 3 c tt tt) (iC : ∀ c ∈ kids n, kC (za s0 25 c) → tri s0 kids up sz root N Qc 0 2 c tt tt) {m : Nat} {s s1 : zS} {l : List cT} (hp : pre s0 kids up sz root N s n l.length) (hq : ∀ s', cTk s' l → PB s0 kids up sz root N s s' [n] → tt s' → kL Qc m s') {js ks : List Nat} (f : zSm s s1 js ks) (mm : fm s s1) (hjs : js.all (fun z => ([64, 65, 66] : List Nat).contains z) = true) (hks : ks.all (fun z => ([12, 13, 63] : List Nat).contains z) = true) (hf : za s0 25 n = 33 → zv s1 12 = 0 → ¬ zv s 77 = 0) (k1 : cTk s1 ((kids n).map (fun c : Nat => ((tyK (za s0 25) c, (c : Int), 0) : cT)) ++ l)) : kL Qc (m + 4 * sz n - 0 - 1) s1 := by
  have hn := h.lt hr
  obtain ⟨g, hx, hb⟩ := hp
  have f' : zSm s s1 [64, 65, 66] [12, 13, 63] := zSm.rf.tr f hjs hks
  have hkk : ∀ k : Int, ([21, 22, 23, 24, 33] : List Int).contains k = true → k = 21 ∨ k = 22 ∨ k = 23 ∨ k = 24 ∨ k = 33 := fun k hk => by simpa using hk
  have hK2 := hkk _ hK
  have hzs : sz n = 1 + szs sz (kids n) := h.ss n hn
  have hcx : ∀ c ∈ kids n, cxF (za s0 25) up root N c = cxF (za s0 25) up root N n := fun c hc => by
    rw [cxF_kid _ h hr hc]
    exact cxS_o (by rcases hK2 with q | q | q | q | q <;> rw [q] <;> rfl)
  have hkr : kr (za s0 25) kids n = kids n := kr_eq (by rcases hK2 with q | q | q | q | q <;> rw [q] <;> rfl)
  have p : cP s s1 (fun x => x = n) 0 := cP.sm f' mm rfl rfl rfl
  have hX : cX s0 kids s1 (cxF (za s0 25) up root N n) := hx.fr p (f'.v 49 rfl)
  refine (seqT h hn (tyK (za s0 25)) (κ := fun c => if za s0 25 c ≤ 12 then 1 else 0) (Y := fun _ => tt) (X := fun _ => tt) stb_tt stb_tt (kids n) (fun c hc => hc) (h.kn n hn) (fun c hc => ?_) m s1 l k1 (g.sm f' rfl rfl rfl rfl) (fun c hc => by rw [hcx c hc]; exact hX) (hb.fs p (by omega) (f'.v 49 rfl) (by rw [ub_o (n := n) (by omega)]; omega)) (fun _ _ => trivial) (fun s3 k3 p3 _ => hq s3 k3 ⟨PBc.node h hn (fun c hc => by rw [hkr]; exact hc) (fun c hc => by rw [hkr] at hc; exact hc) 0 0 (by omega) p (f'.v 69 rfl) (f'.v 82 rfl) p3.1 cP.rf rfl rfl p3.1.2.1 (fun z => ?_), by rw [p3.2.1, f'.v 49 rfl], by rw [p3.2.2, f'.v 74 rfl]⟩ trivial)).le (by omega)
  · try dsimp only
    rcases hEC c hc with q | q
    · rw [tyK.E q, if_pos q.2]
      exact iE c hc q
    · have := q.1
      rw [tyK.C q, if_neg (by omega)]
      exact iC c hc q
  · by_cases e : za s0 25 n = 33
    · exact fac_33 e (hx.2.2.1 (hf e (p3.1.1.z z)))
    · exact fac_no (by rcases hK2 with q | q | q | q | q <;> first | exact absurd q e | (rw [q]; rfl))
theorem tC_21 (h : fF s0 kids up sz [root] N) (hN : N ≤ 2700) {n : Nat} (hr : rch kids root n) (hK : za s0 25 n = 21) (iE : ∀ c ∈ kids n, kE (za s0 25 c) → tri s0 kids up sz root N Qc 1 3 c tt tt) (iC : ∀ c ∈ kids n, kC (za s0 25 c) → tri s0 kids up sz root N Qc 0 2 c tt tt) : tri s0 kids up sz root N Qc 0 2 n tt tt := by
  have hn := h.lt hr
  have hsh := h.sh n hn
  rw [hK] at hsh
  obtain ⟨c, ek, q6⟩ := map1 (hsh.cc rfl)
  have ch := h.ch n hn
  rw [ek] at ch
  have hcN := (h.kd n hn c (by rw [ek]; exact List.mem_cons_self ..)).1
  have hE : kE (za s0 25 c) := by rw [q6]; exact ⟨by decide, by decide⟩
  have hz : 1 ≤ sz n := by have := h.ss n hn; omega
  refine tri.mk (by omega) h hn hY_tt (fun m s l k1 hl hp _ hq => go_2 (co_21 (c := c) (by omega) (by rw [hp.1.st.a 25 n rfl]; exact hK) (by rw [hp.1.st.a 27 n rfl]; exact ch.1) (by omega) ?_))
  refine sp_task k1 (by omega) 3 c 0 (fun s2 k2 f2 => ?_)
  refine tC_ks h hN hr (by rw [hK]; rfl) (fun d hd => Or.inl (by rw [ek] at hd; rw [List.mem_singleton.mp hd]; exact hE)) iE iC hp hq f2 (fm.sm f2 rfl) rfl rfl (fun e => by omega) ?_
  rw [ek, List.map_cons, List.map_nil, tyK.E hE]
  exact k2
theorem tC_if (h : fF s0 kids up sz [root] N) (hN : N ≤ 2700) {n : Nat} (hr : rch kids root n) (hK : za s0 25 n = 22 ∨ za s0 25 n = 23) (iE : ∀ c ∈ kids n, kE (za s0 25 c) → tri s0 kids up sz root N Qc 1 3 c tt tt) (iC : ∀ c ∈ kids n, kC (za s0 25 c) → tri s0 kids up sz root N Qc 0 2 c tt tt) : tri s0 kids up sz root N Qc 0 2 n tt tt := by
  have hn := h.lt hr
  obtain ⟨ka, kb, q1, qa, qb⟩ := (h.sh n hn).ec (by omega)
  obtain ⟨a, b, ek, ea, eb⟩ := map2 q1
  have ch := h.ch n hn
  rw [ek] at ch
  have haN := (h.kd n hn a (by rw [ek]; exact List.mem_cons_self ..)).1
  have hE : kE (za s0 25 a) := by rw [ea]; exact qa
  have hC : kC (za s0 25 b) := by rw [eb]; exact qb
  have hz : sz n = 1 + szs sz (kids n) := h.ss n hn
  have hlen : (kids n).length ≤ szs sz (kids n) := len_sum h (fun c hc => (h.kd n hn c hc).1)
  have e2 : (kids n).length = 2 := by rw [ek]; rfl
  refine tri.mk (by omega) h hn hY_tt (fun m s l k1 hl hp _ hq => go_2 ?_)
  have h27 : za s 27 n = (a : Int) := by rw [hp.1.st.a 27 n rfl]; exact ch.1
  have h28 : za s 28 a = (b : Int) := by rw [hp.1.st.a 28 a rfl]; exact ch.2.1
  have go : wr_task s 2 (za s 28 a) 0 (fun s20 => wr_task s20 3 a 0 (fun s' => kL Qc (m + 4 * sz n - 0 - 1) s')) := by
    rw [h28]
    refine sp_task k1 (by omega) 2 b 0 (fun s2 k2 f2 => sp_task k2 (by show l.length + 1 < 26000; omega) 3 a 0 (fun s3 k3 f3 => ?_))
    have f23 := f2.tr f3 rfl rfl
    refine tC_ks h hN hr (by rcases hK with q | q <;> rw [q] <;> rfl) (fun d hd => by
      rw [ek] at hd
      rcases List.mem_cons.mp hd with rfl | hd
      · exact Or.inl hE
      · rw [List.mem_singleton.mp hd]; exact Or.inr hC) iE iC hp hq f23 (fm.sm f23 rfl) rfl rfl (fun e => by omega) ?_
    rw [ek, List.map_cons, List.map_cons, List.map_nil, tyK.E hE, tyK.C hC]
    exact k3
  have h25 : za s 25 n = za s0 25 n := hp.1.st.a 25 n rfl
  rcases hK with q | q
  · exact co_22 (c := a) (by omega) (by rw [h25]; exact q) h27 (by omega) go
  · exact co_23 (c := a) (by omega) (by rw [h25]; exact q) h27 (by omega) go
theorem tC_24 (h : fF s0 kids up sz [root] N) (hN : N ≤ 2700) {n : Nat} (hr : rch kids root n) (hK : za s0 25 n = 24) (iE : ∀ c ∈ kids n, kE (za s0 25 c) → tri s0 kids up sz root N Qc 1 3 c tt tt) (iC : ∀ c ∈ kids n, kC (za s0 25 c) → tri s0 kids up sz root N Qc 0 2 c tt tt) : tri s0 kids up sz root N Qc 0 2 n tt tt := by
  have hn := h.lt hr
  obtain ⟨ka, kb, kc, q1, qa, qb, qc⟩ := (h.sh n hn).te hK
  obtain ⟨a, b, c, ek, ea, eb, ec⟩ := map3 q1
  have ch := h.ch n hn
  rw [ek] at ch
  have haN := (h.kd n hn a (by rw [ek]; exact List.mem_cons_self ..)).1
  have hbN := (h.kd n hn b (by rw [ek]; exact List.mem_cons_of_mem _ (List.mem_cons_self ..))).1
  have hE : kE (za s0 25 a) := by rw [ea]; exact qa
  have hC : kC (za s0 25 b) := by rw [eb]; exact qb
  have hD : kC (za s0 25 c) := by rw [ec]; exact qc
  have hz : sz n = 1 + szs sz (kids n) := h.ss n hn
  have hlen : (kids n).length ≤ szs sz (kids n) := len_sum h (fun c hc => (h.kd n hn c hc).1)
  have e2 : (kids n).length = 3 := by rw [ek]; rfl
  refine tri.mk (by omega) h hn hY_tt (fun m s l k1 hl hp _ hq => go_2 ?_)
  have h27 : za s 27 n = (a : Int) := by rw [hp.1.st.a 27 n rfl]; exact ch.1
  have h28 : za s 28 a = (b : Int) := by rw [hp.1.st.a 28 a rfl]; exact ch.2.1
  have h28b : za s 28 b = (c : Int) := by rw [hp.1.st.a 28 b rfl]; exact ch.2.2.1
  have h25 : za s 25 n = za s0 25 n := hp.1.st.a 25 n rfl
  refine co_24 (c := a) (c2 := b) (by omega) (by rw [h25]; exact hK) h27 (by omega) h28 (by omega) ?_
  rw [h28b]
  refine sp_task k1 (by omega) 2 c 0 (fun s2 k2 f2 => ⟨by omega, by omega, ?_⟩)
  rw [f2.a 28 a rfl, h28]
  refine sp_task k2 (by show l.length + 1 < 26000; omega) 2 b 0 (fun s3 k3 f3 => sp_task k3 (by show l.length + 1 + 1 < 26000; omega) 3 a 0 (fun s4 k4 f4 => ?_))
  have f24 := (f2.tr f3 rfl rfl : zSm s s3 [64, 65, 66] [63]).tr f4 rfl rfl
  refine tC_ks h hN hr (by rw [hK]; rfl) (fun d hd => by
    rw [ek] at hd
    rcases List.mem_cons.mp hd with rfl | hd
    · exact Or.inl hE
    · rcases List.mem_cons.mp hd with rfl | hd
      · exact Or.inr hC
      · rw [List.mem_singleton.mp hd]; exact Or.inr hD) iE iC hp hq f24 (fm.sm f24 rfl) rfl rfl (fun e => by omega) ?_
  rw [ek, List.map_cons, List.map_cons, List.map_cons, List.map_nil, tyK.E hE, tyK.C hC, tyK.C hD]
  exact k4
theorem tC_33 (h : fF s0 kids up sz [root] N) (hN : N ≤ 2700) {n : Nat} (hr : rch kids root n) (hK : za s0 25 n = 33) (iE : ∀ c ∈ kids n, kE (za s0 25 c) → tri s0 kids up sz root N Qc 1 3 c tt tt) (iC : ∀ c ∈ kids n, kC (za s0 25 c) → tri s0 kids up sz root N Qc 0 2 c tt tt) : tri s0 kids up sz root N Qc 0 2 n tt tt := by
  have hn := h.lt hr
  obtain ⟨ka, q1, qa⟩ := (h.sh n hn).e1 (by omega)
  obtain ⟨c, ek, ea⟩ := map1 q1
  have ch := h.ch n hn
  rw [ek] at ch
  have hE : kE (za s0 25 c) := by rw [ea]; exact qa
  have hz : 1 ≤ sz n := by have := h.ss n hn; omega
  refine tri.mk (by omega) h hn hY_tt (fun m s l k1 hl hp _ hq => go_2 ?_)
  obtain ⟨t1, t2, -⟩ := hp.1.tk2 h hn
  refine co_33 (c := c) (by omega) (by rw [hp.1.st.a 25 n rfl]; exact hK) (by rw [hp.1.st.a 27 n rfl]; exact ch.1) t1 t2 (fun s1 f1 m1 hf => ?_)
  refine sp_task (k1.sm f1 rfl rfl) (by omega) 3 c 0 (fun s2 k2 f2 => ?_)
  have f12 : zSm s s2 [64, 65, 66] [12, 13, 63] := (zSm.rf.tr f1 rfl rfl : zSm s s1 [64, 65, 66] [12, 13, 63]).tr f2 rfl rfl
  refine tC_ks h hN hr (by rw [hK]; rfl) (fun d hd => Or.inl (by rw [ek] at hd; rw [List.mem_singleton.mp hd]; exact hE)) iE iC hp hq f12 (m1.tr (fm.sm f2 rfl)) rfl rfl (fun _ z => hf (by rw [← f2.v 12 rfl]; exact z)) ?_
  rw [ek, List.map_cons, List.map_nil, tyK.E hE]
  exact k2
/-- those that end at once -/
theorem tC_end (h : fF s0 kids up sz [root] N) (hN : N ≤ 2700) {n : Nat} (hr : rch kids root n) (hK : za s0 25 n = 29 ∨ za s0 25 n = 30 ∨ za s0 25 n = 31 ∨ za s0 25 n = 32 ∨ za s0 25 n = 34 ∨ za s0 25 n = 37) : tri s0 kids up sz root N Qc 0 2 n tt tt := by
  have hn := h.lt hr
  have hz : 1 ≤ sz n := by have := h.ss n hn; omega
  refine tri.mk (by omega) h hn hY_tt (fun m s l k1 hl hp _ hq => go_2 ?_)
  obtain ⟨g, hx, hb⟩ := hp
  obtain ⟨t1, t2, -⟩ := g.tk2 h hn
  have h25 : za s 25 n = za s0 25 n := g.st.a 25 n rfl
  refine co_end (by omega) (by rw [h25]; exact hK) t1 t2 (fun s1 f1 m1 hf => ?_)
  have hkid : kids n = [] := List.map_eq_nil_iff.mp ((h.sh n hn).lf (by omega))
  refine (hq s1 (k1.sm f1 rfl rfl) (PB.leaf h hn (by rw [kr_eq (by rcases hK with q | q | q | q | q | q <;> rw [q] <;> rfl)]; exact hkid) (cP.sm f1 m1 rfl rfl rfl) (g.sm f1 rfl rfl rfl rfl) (f1.v 69 rfl) (f1.v 82 rfl) (f1.v 49 rfl) (f1.v 74 rfl) (fun z => ?_)) trivial).le (by omega)
  obtain ⟨a1, a2, a3⟩ := hf z
  rw [h25] at a1 a2 a3
  rcases hK with q | q | q | q | q | q
  · exact fac_lp (Or.inl q) (hx.1 (a1 (Or.inl q)))
  · exact fac_lp (Or.inr q) (hx.1 (a1 (Or.inr q)))
  · exact fac_31 q (hx.2.1 (a2 q))
  · exact fac_32 q (hx.2.2.2.1 (a3 q))
  · exact fac_no (by rw [q]; rfl)
  · exact fac_no (by rw [q]; rfl)
/-- GOTO -/
theorem tC_35 (h : fF s0 kids up sz [root] N) (hN : N ≤ 2700) {n : Nat} (hr : rch kids root n) (hK : za s0 25 n = 35) : tri s0 kids up sz root N Qc 0 2 n tt tt := by
  have hn := h.lt hr
  have hz : 1 ≤ sz n := by have := h.ss n hn; omega
  refine tri.mk (by omega) h hn hY_tt (fun m s l k1 hl hp _ hq => go_2 ?_)
  obtain ⟨g, hx, hb⟩ := hp
  obtain ⟨t1, t2, -⟩ := g.tk2 h hn
  have h25 : za s 25 n = za s0 25 n := g.st.a 25 n rfl
  have hkid : kids n = [] := List.map_eq_nil_iff.mp ((h.sh n hn).lf (by omega))
  have fin : ∀ s1, zSm s s1 [31] [12, 13] → fm s s1 → (∀ x : Nat, ¬ x = n → za s1 31 x = za s 31 x) → (zv s1 12 = 0 → ∃ c p : Nat, za s1 31 n = c ∧ lNd s0 kids c p ∧ p ∈ (cxF (za s0 25) up root N n).2.2.2) → kL Qc (m + 4 * sz n - 0 - 1) s1 := fun s1 f1 m1 o1 hf => (hq s1 (k1.sm f1 rfl rfl) (PB.leaf h hn (by rw [kr_eq (by rw [hK]; rfl)]; exact hkid) (cP.own f1 m1 rfl rfl (fun x hx2 => ⟨f1.a 29 x rfl, f1.a 30 x rfl, o1 x hx2⟩)) (g.sm f1 rfl rfl rfl rfl) (f1.v 69 rfl) (f1.v 82 rfl) (f1.v 49 rfl) (f1.v 74 rfl) (fun z => fac_35 hK (hf z))) trivial).le (by omega)
  have fs : ∀ x, zSm s (zpa s 31 n x) [31] [] := fun x => zSm.rf.pa rfl
  have fo : ∀ (x : Int) (y : Nat), ¬ y = n → za (zpa s 31 n x) 31 y = za s 31 y := fun x y hy => by rw [za_pa, if_pos rfl, if_neg hy]
  refine co_35 (by omega) (by rw [h25]; exact hK) ?_
  unfold wr_goesTo
  rw [Int.toNat_natCast]
  refine ⟨by omega, by omega, sp_means s _ g.en.1 g.en.2 ⟨by omega, by omega, fun c => absurd c (by decide), fun _ => ⟨by omega, by omega, ?_⟩⟩ (fun e e1 e2 => ?_)⟩
  · refine sp_place (zpa s 31 n (-1)) _ t1 t2 (fun r => ?_)
    refine ffm_fault (sp_faultN _ 3 r (by decide)) ?_
    rintro s1 - ⟨f1, q1⟩
    exact fin s1 ((zSm.rf.tr (fs (-1)) rfl rfl : zSm s _ [31] [12, 13]).tr f1 rfl rfl) (fun _ => q1) (fun y hy => by rw [f1.a 31 y rfl]; exact fo _ y hy) (fun z => absurd z q1)
  · have F : wr_goesTo_74 (fun s' => kL Qc (m + 4 * sz n - 0 - 1) s') (zpa s 31 n (-1)) n e := by
      unfold wr_goesTo_74
      rw [Int.toNat_natCast, Int.toNat_natCast]
      refine ⟨by omega, by omega, sp_place (zpa s 31 n (-1)) _ t1 t2 (fun r => ?_)⟩
      refine ffm_fault (sp_faultN _ 6 r (by decide)) ?_
      rintro s1 - ⟨f1, q1⟩
      have en := g.en
      refine ⟨by omega, by omega, by omega, by omega, fin _ (((zSm.rf.tr (fs (-1)) rfl rfl : zSm s _ [31] [12, 13]).tr f1 rfl rfl).pa rfl) (fun _ => q1) (fun y hy => ?_) (fun z => absurd z q1)⟩
      rw [za_pa, if_pos rfl, if_neg hy, f1.a 31 y rfl]
      exact fo _ y hy
    have en := g.en
    rw [Int.toNat_natCast]
    refine ⟨by omega, by omega, fun _ => ⟨by omega, by omega, fun _ => F, fun c5 => ⟨by omega, by omega, fun _ => F, fun cs => ⟨by omega, by omega, fun co => ⟨by omega, by omega, by omega, by omega, ?_⟩, fun _ => F⟩⟩⟩, fun c => absurd (by omega) c⟩
    obtain ⟨-, x2⟩ := hx.2.2.2.2 e e1
    obtain ⟨c, p, y1, y2, y3⟩ := x2 c5 cs co
    refine fin _ ((zSm.rf.tr (fs (-1)) rfl rfl : zSm s _ [31] [12, 13]).pa rfl) (fun q => q) (fun y hy => ?_) (fun _ => ⟨c, p, ?_, y2, y3⟩)
    · rw [za_pa, if_pos rfl, if_neg hy]
      exact fo _ y hy
    · rw [za_pa, if_pos rfl, if_pos rfl]
      exact y1
end CO

