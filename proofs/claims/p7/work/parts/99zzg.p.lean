/-! THE CHECK: GLOBAL, MANIFEST, STATIC -/
section GM
variable {s0 : zS} {kids : Nat → List Nat} {up sz : Nat → Nat} {root N : Nat} {Qc : zS → Prop}
theorem GI.p52 {s : zS} (h : GI s0 kids root s) {i : Nat} {x : Int} (hi : za s 51 i = 1 ∨ za s 51 i = 2) (hv : za s 51 i = 1 → 0 ≤ x ∧ x ≤ 99) : GI s0 kids root (zpa s 52 i x) := ⟨h.st.pa rfl, h.sa, h.en, h.tk, fun e he => by
  obtain ⟨k1, k2, k3, k4, k5⟩ := h.eg e he
  by_cases c : e = i
  · subst c
    refine ⟨k1, fun k => ?_, fun k => ?_, fun k => ?_, fun k => ?_⟩
    · rw [za_pa, if_pos rfl, if_pos rfl]; exact hv k
    · have : za s 51 e = 3 := k; omega
    · have : za s 51 e = 4 := k; omega
    · have : za s 51 e = 5 := k; omega
  · have e2 : za (zpa s 52 i x) 52 e = za s 52 e := by rw [za_pa, if_pos rfl, if_neg c]
    unfold eOk
    rw [e2]
    exact ⟨k1, k2, k3, k4, k5⟩, h.bb, h.sv, h.ro, h.rt, h.iu, h.gv, h.vf, h.lo, h.sw, h.wd, h.it⟩
theorem GI.p53 {s : zS} (h : GI s0 kids root s) {i : Nat} {x : Int} (hi : za s 51 i = 1 ∨ za s 51 i = 2) : GI s0 kids root (zpa s 53 i x) := ⟨h.st.pa rfl, h.sa, h.en, h.tk, fun e he => by
  obtain ⟨k1, k2, k3, k4, k5⟩ := h.eg e he
  by_cases c : e = i
  · subst c
    refine ⟨k1, k2, k3, fun k => ?_, fun k => ?_⟩
    · have : za s 51 e = 4 := k; omega
    · have : za s 51 e = 5 := k; omega
  · have e2 : za (zpa s 53 i x) 53 e = za s 53 e := by rw [za_pa, if_pos rfl, if_neg c]
    unfold eOk
    rw [e2]
    exact ⟨k1, k2, k3, k4, k5⟩, h.bb, h.sv, h.ro, h.rt, h.iu, h.gv, h.vf, h.lo, h.sw, h.wd, h.it⟩
/-- the kind of entry that a declaration makes -/
def gmK (k : Int) : Int := if k = 50 then 1 else if k = 51 then 2 else 3
/-- items declared up to here -/
def giS (s0 : zS) (kids : Nat → List Nat) (root n : Nat) (S : List Nat) (s s' : zS) (P : List Nat) : Prop := zSm s s' [30, 50, 51, 52, 53, 54, 57] [12, 13, 49] ∧ GI s0 kids root s' ∧ cC s s' (bel kids [n]) 0 ∧ EC s0 kids s' S ∧ zv s' 49 = zv s 49 + P.length ∧ ∀ c ∈ P, ∃ e : Nat, za s' 30 c = e ∧ zv s 49 ≤ e ∧ (e : Int) < zv s' 49 ∧ za s' 51 e = gmK (za s0 25 n)
/-- their K's worked up to here -/
def gvS (s0 : zS) (kids : Nat → List Nat) (root n : Nat) (S : List Nat) (s s' : zS) (P R : List Nat) : Prop := zSm s s' [30, 31, 50, 51, 52, 53, 54, 57, 60, 61, 62, 85, 86] [12, 13, 49, 58, 59, 81, 84] ∧ GI s0 kids root s' ∧ cC s s' (bel kids [n]) P.length ∧ EC s0 kids s' S ∧ zv s' 49 = zv s 49 + (P.length + R.length) ∧ zv s' 81 ≤ zv s 81 + P.length ∧ (∀ c ∈ R, ∃ e : Nat, za s' 30 c = e ∧ zv s 49 ≤ e ∧ (e : Int) < zv s' 49 ∧ za s' 51 e = gmK (za s0 25 n)) ∧ (za s0 25 n = 52 → ∀ c ∈ P, 0 ≤ za s' 31 c ∧ za s' 31 c < zv s' 81)
theorem tD_gm (h : fF s0 kids up sz [root] N) (hN : N ≤ 2700) {n : Nat} (hr : rch kids root n) (hw : wrs (za s0 25) kids root n) (hK : za s0 25 n = 50 ∨ za s0 25 n = 51 ∨ za s0 25 n = 52) : triD s0 kids up sz root N Qc 1 n tt := by
  have hn := h.lt hr
  have hkl : ∀ c ∈ kids n, c < N := fun c hc => (h.kd n hn c hc).1
  have hzn : sz n = 1 + szs sz (kids n) := h.ss n hn
  have hlen : (kids n).length ≤ szs sz (kids n) := len_sum h hkl
  have hszr := h.szr hr
  have un : ub (za s0 25) kids sz n = sz n := ub_o (by omega)
  have h56 : ∀ c ∈ kids n, za s0 25 c = 56 := fun c hc => (h.sh n hn).de hK _ (List.mem_map.mpr ⟨c, hc, rfl⟩)
  have hkid : ∀ c ∈ kids n, ∃ k, kids c = [k] ∧ kE (za s0 25 k) := fun c hc => by
    obtain ⟨ka, q1, qa⟩ := (h.sh c (hkl c hc)).e1 (by rw [h56 c hc]; decide)
    obtain ⟨k, ek, ea⟩ := map1 q1
    exact ⟨k, ek, by rw [ea]; exact qa⟩
  have hup : ∀ c ∈ kids n, up c = n := fun c hc => (h.kd n hn c hc).2.1
  have hbk : ∀ c ∈ kids n, bel kids [n] c := fun c hc => ⟨n, List.mem_cons_self .., (rch.rt kids n).kid hc⟩
  have hgk : gmK (za s0 25 n) = 1 ∨ gmK (za s0 25 n) = 2 ∨ gmK (za s0 25 n) = 3 := by
    unfold gmK
    rcases hK with q | q | q <;> rw [q] <;> decide
  refine triD.mk h hn hY_tt (fun m s l k1 hl hp _ hq => go_1 ?_)
  obtain ⟨g, hx, hb⟩ := hp
  obtain ⟨b1, b2, b3, b4, b5, b6, b7, b8⟩ := id hb
  have h25 : za s 25 n = za s0 25 n := g.st.a 25 n rfl
  refine do_gl (by omega) (by rw [h25]; omega) ⟨(kids n).length + 1, ?_⟩
  rw [h25]
  have fin : ∀ s', gvS s0 kids root n (cxF (za s0 25) up root N n).2.2.2 s s' (kids n) [] → kL Qc (m + 4 * sz n - 1) s' := fun s' ⟨f, g', cc, ec, e49, e81, _, e31⟩ => by
    have e0 : ([] : List Nat).length = 0 := rfl
    rw [e0] at e49
    refine (hq s' (k1.sm f rfl rfl) ⟨?_, g', fun r q1 q2 => ?_, fun z d hd => ?_, Or.inl (f.v 82 rfl)⟩ ec (by omega)).le (by omega)
    · exact (cC.tr (w := szs sz [n]) cc (cC.rf (D := bel kids [n]) (w := 0)) (fun _ q => q) (fun _ q => q) (by rw [szs1]; omega)).p f rfl rfl (by rw [szs1]; omega)
    · rw [f.v 69 rfl] at q2
      omega
    · rw [List.mem_singleton.mp hd]
      by_cases c52 : za s0 25 n = 52
      · refine FA.upw (fac_no (by rw [c52]; rfl)) (fun c hc => ?_)
        rw [kr_eq (by rw [c52]; rfl)] at hc
        exact FA.tv (kr_no (by have := h56 c hc; omega)) (fac_56 (h56 c hc) (fun _ => e31 c52 c hc))
      · refine FA.tv (kr_no (by omega)) (fac_no ?_)
        rcases hK with q | q | q
        · rw [q]; rfl
        · rw [q]; rfl
        · exact absurd q c52
  -- the K's
  have L2 : ∀ (ks : List Nat) (x : Int) (m2 : Nat) (s1 : zS) (P : List Nat), ks.length < m2 → fCh s1 x ks → kids n = P ++ ks → gvS s0 kids root n (cxF (za s0 25) up root N n).2.2.2 s s1 P ks → wr_declaration_213 (fun s' => kL Qc (m + 4 * sz n - 1) s') m2 s1 (za s0 25 n) x := by
    intro ks
    induction ks with
    | nil =>
      intro x m2 s1 P hm h1 hk hl2
      obtain ⟨m2, rfl⟩ : ∃ q, m2 = q + 1 := ⟨m2 - 1, by have : 0 < m2 := hm; omega⟩
      have h1' : x = -1 := h1
      rw [List.append_nil] at hk
      unfold wr_declaration_213
      unfold wr_declaration_213B
      exact ⟨fun _ => fin s1 (by rw [hk]; exact hl2), fun e => absurd (by omega) e⟩
    | cons a ks ih =>
      intro x m2 s1 P hm h1 hk hl2
      have e4 : (a :: ks).length = ks.length + 1 := rfl
      rw [e4] at hm
      obtain ⟨m2, rfl⟩ : ∃ q, m2 = q + 1 := ⟨m2 - 1, by omega⟩
      have h1' : x = (a : Int) := h1.1
      have ha : a ∈ kids n := by rw [hk]; exact List.mem_append.mpr (Or.inr (List.mem_cons_self ..))
      have haN := hkl a ha
      have hk2 : kids n = (P ++ [a]) ++ ks := by rw [hk, List.append_assoc]; rfl
      have hpl : (kids n).length = P.length + (ks.length + 1) := by rw [hk, List.length_append, e4]
      have ePa : (P ++ [a]).length = P.length + 1 := by rw [List.length_append]; rfl
      have nda : ¬ a ∈ ks := fun q => by
        have := h.kn n hn
        rw [hk, List.nodup_append, List.nodup_cons] at this
        exact this.2.1.1 q
      subst h1'
      obtain ⟨f, g1, cc, ec, e49, e81, eR, e31⟩ := id hl2
      rw [e4] at e49
      obtain ⟨k, ek, ekE⟩ := hkid a ha
      have mk : k ∈ kids a := by rw [ek]; exact List.mem_cons_self ..
      have chA := h.ch a haN
      rw [ek] at chA
      have hkN := (h.kd a haN k mk).1
      obtain ⟨e, q1, q2, q3, q4⟩ := eR a (List.mem_cons_self ..)
      have en1 := g1.en
      unfold wr_declaration_213
      unfold wr_declaration_213B
      rw [Int.toNat_natCast, show za s1 27 a = (k : Int) from (g1.st.a 27 a rfl).trans chA.1]
      refine ⟨fun c => absurd c (by omega), fun _ => ⟨by omega, by omega, g1.cn h hN ((hr.kid ha).kid mk) ekE (fun s2 f2 m2' _ g2 => ⟨by omega, by omega, ?_⟩)⟩⟩
      have o30 : za s2 30 a = (e : Int) := (f2.a 30 a rfl).trans q1
      have o27 : za s2 27 a = (k : Int) := (g2.st.a 27 a rfl).trans chA.1
      have o28 : ∀ y, za s2 28 y = za s1 28 y := fun y => f2.a 28 y rfl
      have o51 : za s2 51 e = gmK (za s0 25 n) := (f2.a 51 e rfl).trans q4
      have v49 : zv s2 49 = zv s1 49 := f2.v 49 rfl
      have v81 : zv s2 81 = zv s1 81 := f2.v 81 rfl
      have c2 : cC s1 s2 (bel kids [n]) 0 := cC.sm f2 m2' rfl rfl rfl
      have ec2 : EC s0 kids s2 (cxF (za s0 25) up root N n).2.2.2 := ec.sm f2 rfl rfl
      have F2 : zSm s s2 [30, 31, 50, 51, 52, 53, 54, 57, 60, 61, 62, 85, 86] [12, 13, 49, 58, 59, 81, 84] := f.tr f2 rfl rfl
      have cc12 : cC s s2 (bel kids [n]) P.length := cc.tr c2 (fun _ q => q) (fun _ q => q) (by omega)
      -- behind the entry's change: on
      have nxt : ∀ s3, zSm s2 s3 [31, 52, 53, 85, 86] [12, 13, 81, 84] → fm s2 s3 → GI s0 kids root s3 → (∀ e2 : Nat, ¬ e2 = e → za s3 52 e2 = za s2 52 e2 ∧ za s3 53 e2 = za s2 53 e2) → (∀ y, ¬ y = a → za s3 31 y = za s2 31 y) → zv s2 81 ≤ zv s3 81 → zv s3 81 ≤ zv s2 81 + 1 → (za s0 25 n = 52 → 0 ≤ za s3 31 a ∧ za s3 31 a < zv s3 81) → wr_declaration_213 (fun s' => kL Qc (m + 4 * sz n - 1) s') m2 s3 (za s0 25 n) (za s1 28 a) := fun s3 f3 m3 g3 o3 o3n w1 w2 w31 => by
        have e28 : ∀ y, za s3 28 y = za s1 28 y := fun y => (f3.a 28 y rfl).trans (o28 y)
        have v3 : zv s3 49 = zv s1 49 := (f3.v 49 rfl).trans v49
        have c3 : cC s s3 (bel kids [n]) (P ++ [a]).length := by
          have y1 := cc12.w1
          have y2 := cc12.w2
          refine ⟨cc12.m.tr m3, by rw [f3.v 49 rfl]; exact cc12.e1, fun e2 he2 => ?_, by rw [f3.v 73 rfl]; exact cc12.s73, by rw [f3.v 76 rfl]; exact cc12.s76, by rw [f3.v 77 rfl]; exact cc12.s77, by rw [f3.v 75 rfl]; exact cc12.mu, by omega, by rw [ePa]; omega, by rw [f3.v 69 rfl]; exact cc12.r1, by have := cc12.r2; rw [f3.v 69 rfl, ePa]; omega, fun r hr2 => by rw [f3.a 70 r rfl, f3.a 71 r rfl, f3.a 72 r rfl]; exact cc12.rr r hr2, by rw [f3.v 78 rfl]; exact cc12.v1, by have := cc12.v2; rw [f3.v 78 rfl, ePa]; omega, fun y hy => ?_⟩
          · obtain ⟨a1, a2, a3, a4, a5⟩ := cc12.er e2 he2
            obtain ⟨d1, d2⟩ := o3 e2 (by omega)
            rw [f3.a 50 e2 rfl, f3.a 51 e2 rfl, f3.a 54 e2 rfl, d1, d2]
            exact ⟨a1, a2, a3, a4, a5⟩
          · have hya : ¬ y = a := fun q => hy (by rw [q]; exact hbk a ha)
            rw [f3.a 29 y rfl, f3.a 30 y rfl, o3n y hya]
            exact cc12.nd y hy
        have ec3 : EC s0 kids s3 (cxF (za s0 25) up root N n).2.2.2 := fun e2 he2 => by
          rw [f3.v 49 rfl] at he2
          rw [f3.a 51 e2 rfl, f3.a 54 e2 rfl, f3.v 73 rfl, f3.v 75 rfl, f3.v 77 rfl]
          by_cases c : e2 = e
          · rw [c, o51]
            exact ⟨fun q => by omega, fun q => by omega⟩
          · obtain ⟨d1, d2⟩ := o3 e2 c
            rw [d1, d2]
            exact ec2 e2 he2
        refine ih _ m2 s3 (P ++ [a]) (by omega) (h1.2.fr (fun y _ => e28 y)) hk2 ⟨F2.tr f3 rfl rfl, g3, c3, ec3, by rw [v3, e49, ePa]; omega, by rw [ePa]; omega, fun c hc => ?_, fun k52 c hc => ?_⟩
        · obtain ⟨e2, y1, y2, y3, y4⟩ := eR c (List.mem_cons_of_mem _ hc)
          exact ⟨e2, by rw [f3.a 30 c rfl, f2.a 30 c rfl]; exact y1, y2, by rw [v3]; exact y3, by rw [f3.a 51 e2 rfl, f2.a 51 e2 rfl]; exact y4⟩
        · by_cases q : c = a
          · rw [q]; exact w31 k52
          · rcases List.mem_append.mp hc with hc | hc
            · have := e31 k52 c hc
              rw [o3n c q, f2.a 31 c rfl]
              omega
            · exact absurd (List.mem_singleton.mp hc) q
      have pe : ∀ (t : zS) (x : Int) (i : Nat), za (zpa t 52 e x) 53 i = za t 53 i := fun _ _ _ => rfl
      have po : ∀ (t : zS) (x : Int) (i : Nat), ¬ i = e → za (zpa t 52 e x) 52 i = za t 52 i := fun t x i hi => by rw [za_pa, if_pos rfl, if_neg hi]
      -- a global's number
      have GL : ∀ (t : zS) (x : Int), za s0 25 n = 50 → 0 ≤ x → x ≤ 99 → zSm s2 t [] [12, 13] → fm s2 t → wr_declaration_213 (fun s' => kL Qc (m + 4 * sz n - 1) s') m2 (zpa t 52 e x) (za s0 25 n) (za s1 28 a) := fun t x k50 x0 x1 ft mt => by
        have gt2 : GI s0 kids root t := g2.sm ft rfl rfl rfl rfl
        have k1 : za t 51 e = 1 := by rw [ft.a 51 e rfl, o51, k50]; rfl
        exact nxt _ ((zSm.rf.tr ft rfl rfl : zSm s2 t [31, 52, 53, 85, 86] [12, 13, 81, 84]).pa rfl) mt (gt2.p52 (Or.inl k1) (fun _ => ⟨x0, x1⟩)) (fun e2 he2 => ⟨by rw [po t x e2 he2, ft.a 52 e2 rfl], by rw [pe, ft.a 53 e2 rfl]⟩) (fun y _ => ft.a 31 y rfl) (by show zv s2 81 ≤ zv t 81; rw [ft.v 81 rfl]; exact Int.le_refl _) (by show zv t 81 ≤ _; rw [ft.v 81 rfl]; omega) (fun q => absurd q (by omega))
      have G359 : ∀ t, za s0 25 n = 50 → zSm s2 t [] [12, 13] → fm s2 t → wr_declaration_359 (fun s' => kL Qc (m + 4 * sz n - 1) s') (wr_declaration_213 (fun s' => kL Qc (m + 4 * sz n - 1) s') m2) t (za s0 25 n) a e := fun t k50 ft mt => by
        unfold wr_declaration_359
        rw [Int.toNat_natCast, Int.toNat_natCast, show za t 28 a = za s1 28 a from (ft.a 28 a rfl).trans (o28 a)]
        exact ⟨fun _ => ⟨by omega, by omega, by omega, by omega, GL t 0 k50 (by omega) (by omega) ft mt⟩, fun _ => ⟨fun _ => ⟨by omega, by omega, by omega, by omega, GL t 0 k50 (by omega) (by omega) ft mt⟩, fun c0 => ⟨fun _ => ⟨by omega, by omega, by omega, by omega, GL t 0 k50 (by omega) (by omega) ft mt⟩, fun c1 => ⟨by omega, by omega, by omega, by omega, GL t _ k50 (by omega) (by omega) ft mt⟩⟩⟩⟩
      have MF : ∀ y : Int, za s0 25 n = 51 → wr_declaration_213 (fun s' => kL Qc (m + 4 * sz n - 1) s') m2 (zpa (zpa s2 53 e y) 52 e (zv s2 59)) (za s0 25 n) (za s1 28 a) := fun y k51 => by
        have k2 : za s2 51 e = 2 := by rw [o51, k51]; rfl
        have g5 : GI s0 kids root (zpa s2 53 e y) := g2.p53 (Or.inr k2)
        exact nxt _ ((zSm.rf.pa rfl).pa rfl) (fun q => q) (g5.p52 (Or.inr k2) (fun q => absurd (k2.symm.trans q) (by decide))) (fun e2 he2 => ⟨by rw [po _ _ e2 he2]; rfl, by rw [pe, za_pa, if_pos rfl, if_neg he2]⟩) (fun _ _ => rfl) (Int.le_refl _) (by show zv s2 81 ≤ zv s2 81 + 1; omega) (fun q => absurd q (by omega))
      have hk34 := (g2.tk2 h hkN)
      have FF : za s0 25 n = 50 → wr_place s2 (za s2 34 k) (fun r35 s36 => wr_fault s36 6 r35 (fun s42 => wr_declaration_359 (fun s' => kL Qc (m + 4 * sz n - 1) s') (wr_declaration_213 (fun s' => kL Qc (m + 4 * sz n - 1) s') m2) s42 (za s0 25 n) a e)) := fun k50 => sp_place s2 _ hk34.2.2.1 hk34.2.2.2 (fun r => by
        refine ffm_fault (sp_faultN s2 6 r (by decide)) ?_
        rintro t - ⟨ft, qt⟩
        exact G359 t k50 ft (fun _ => qt))
      rw [o30, o27, Int.toNat_natCast, Int.toNat_natCast, o28 a]
      refine ⟨fun n52 => ⟨fun n51 => ⟨fun _ => G359 s2 (by omega) zSm.rf fm.rf, fun _ => ⟨fun _ => ⟨by omega, by omega, by omega, by omega, FF (by omega)⟩, fun _ => ⟨fun _ => G359 s2 (by omega) zSm.rf fm.rf, fun _ => ⟨by omega, by omega, by omega, by omega, FF (by omega)⟩⟩⟩⟩, fun k51 => ⟨fun _ => ⟨by omega, by omega, by omega, by omega, by omega, by omega, MF _ k51⟩, fun _ => ⟨by omega, by omega, by omega, by omega, by omega, by omega, MF _ k51⟩⟩⟩, fun k52 => ⟨by omega, by omega, ?_⟩⟩
      have f5 : zSm s2 (zpa s2 31 a (zv s2 81)) [31] [] := zSm.rf.pa rfl
      have g5 : GI s0 kids root (zpa s2 31 a (zv s2 81)) := g2.sm f5 rfl rfl rfl rfl
      have wd2 := g2.wd
      have := g5.iw (by show zv s2 81 ≤ 2000000; omega) (zv s2 59) (Q := fun s6 => wr_declaration_213 (fun s' => kL Qc (m + 4 * sz n - 1) s') m2 s6 (za s0 25 n) (za s1 28 a)) (fun s6 f6 g6 e6 => ?_)
      · refine ffm_init_ this ?_
        rintro s4 f4 ⟨r1, r2⟩
        rw [show za s4 28 a = za s1 28 a from (f4.a 28 a rfl).trans (o28 a)]
        exact ⟨r1, by omega, by omega, r2⟩
      · have w6 : zv s6 81 = zv s2 81 + 1 := e6
        have a6 : za s6 31 a = zv s2 81 := by rw [f6.a 31 a rfl, za_pa, if_pos rfl, if_pos rfl]
        exact nxt s6 ((zSm.rf.tr f5 rfl rfl : zSm s2 _ [31, 52, 53, 85, 86] [12, 13, 81, 84]).tr f6 rfl rfl) ((fm.sm f5 rfl).tr (fm.sm f6 rfl)) g6 (fun e2 _ => ⟨f6.a 52 e2 rfl, f6.a 53 e2 rfl⟩) (fun y hy => by rw [f6.a 31 y rfl, za_pa, if_pos rfl, if_neg hy]) (by omega) (by omega) (fun _ => by rw [a6]; omega)
  -- the names
  have L1 : ∀ (ks : List Nat) (x : Int) (m2 : Nat) (s1 : zS) (P : List Nat), ks.length < m2 → fCh s1 x ks → kids n = P ++ ks → giS s0 kids root n (cxF (za s0 25) up root N n).2.2.2 s s1 P → wr_declaration_133 (fun s' => kL Qc (m + 4 * sz n - 1) s') m2 s1 n (za s0 25 n) x := by
    intro ks
    induction ks with
    | nil =>
      intro x m2 s1 P hm h1 hk hl2
      obtain ⟨m2, rfl⟩ : ∃ q, m2 = q + 1 := ⟨m2 - 1, by have : 0 < m2 := hm; omega⟩
      have h1' : x = -1 := h1
      rw [List.append_nil] at hk
      obtain ⟨f, g1, cc, ec, e49, eP⟩ := hl2
      unfold wr_declaration_133
      unfold wr_declaration_133B
      rw [Int.toNat_natCast]
      refine ⟨fun _ => ⟨by omega, by omega, (kids n).length + 1, L2 (kids n) _ _ s1 [] (by omega) ?_ rfl ⟨zSm.rf.tr f rfl rfl, g1, cc, ec, by rw [e49, ← hk]; show zv s 49 + ((kids n).length : Int) = zv s 49 + (((([] : List Nat).length : Nat) : Int) + ((kids n).length : Nat)); have : ([] : List Nat).length = 0 := rfl; omega, by rw [f.v 81 rfl]; show zv s 81 ≤ zv s 81 + ((0 : Nat) : Int); omega, fun c hc => eP c (by rw [← hk]; exact hc), fun _ c hc => absurd hc List.not_mem_nil⟩⟩, fun e => absurd (by omega) e⟩
      rw [g1.st.a 27 n rfl]
      exact (h.ch n hn).fr (fun y _ => g1.st.a 28 y rfl)
    | cons a ks ih =>
      intro x m2 s1 P hm h1 hk hl2
      have e4 : (a :: ks).length = ks.length + 1 := rfl
      rw [e4] at hm
      obtain ⟨m2, rfl⟩ : ∃ q, m2 = q + 1 := ⟨m2 - 1, by omega⟩
      have h1' : x = (a : Int) := h1.1
      have ha : a ∈ kids n := by rw [hk]; exact List.mem_append.mpr (Or.inr (List.mem_cons_self ..))
      have haN := hkl a ha
      have hk2 : kids n = (P ++ [a]) ++ ks := by rw [hk, List.append_assoc]; rfl
      have hpl : (kids n).length = P.length + (ks.length + 1) := by rw [hk, List.length_append, e4]
      have ePa : (P ++ [a]).length = P.length + 1 := by rw [List.length_append]; rfl
      subst h1'
      obtain ⟨f, g1, cc, ec, e49, eP⟩ := id hl2
      obtain ⟨u1, u2, -⟩ := g1.tk2 h haN
      have en1 := g1.en
      have nxt : ∀ (v : Int) (s2 : zS), cEn s1 s2 (za s2 50 (zv s1 49).toNat) (gmK (za s0 25 n)) v 0 0 → cTo s2 → (gmK (za s0 25 n) = 1 → 0 ≤ v ∧ v ≤ 99) → (gmK (za s0 25 n) = 3 → ∃ c : Nat, v = c ∧ wNd s0 kids root c) → wr_declaration_133 (fun s' => kL Qc (m + 4 * sz n - 1) s') m2 (zpa s2 30 a (zv s1 49)) n (za s0 25 n) (za s2 28 a) := fun v s2 en t hv1 hv3 => by
        obtain ⟨fe, me, q2, q3, q4⟩ := id en
        have f3 : zSm s2 (zpa s2 30 a (zv s1 49)) [30] [] := zSm.rf.pa rfl
        have g2 : GI s0 kids root s2 := g1.ent en t (by omega) (fun e he => by
          obtain ⟨-, r2, r3, r4, r5⟩ := q4 e he
          unfold eOk
          rw [r2, r3]
          exact ⟨by rcases hgk with q | q | q <;> rw [q] <;> exact ⟨by decide, by decide⟩, hv1, hv3, fun q => absurd q (by rcases hgk with z | z | z <;> rw [z] <;> decide), fun q => absurd q (by rcases hgk with z | z | z <;> rw [z] <;> decide)⟩)
        have e28 : ∀ y, za (zpa s2 30 a (zv s1 49)) 28 y = za s1 28 y := fun y => fe.a 28 y rfl
        have w49 : zv (zpa s2 30 a (zv s1 49)) 49 = zv s1 49 + 1 := q2
        rw [show za s2 28 a = za s1 28 a from fe.a 28 a rfl]
        refine ih _ m2 _ (P ++ [a]) (by omega) (h1.2.fr (fun y _ => e28 y)) hk2 ⟨(f.tr fe rfl rfl).pa rfl, g2.sm f3 rfl rfl rfl rfl, (cC.tr (w := 0) cc (cC.ent (D := bel kids [n]) (w := 0) en) (fun _ q => q) (fun _ q => q) (by omega)).tr (cC.own (D := bel kids [n]) (w := 0) f3 (fm.sm f3 rfl) rfl rfl (fun y hy => ⟨rfl, by rw [za_pa, if_pos rfl, if_neg (fun q => hy (by rw [q]; exact hbk a ha))], rfl⟩)) (fun _ q => q) (fun _ q => q) (by omega), (ec.ent en (fun p hp => hp) (fun k => by omega) (fun k => by omega)).sm f3 rfl rfl, by rw [w49, e49, ePa]; omega, fun c hc => ?_⟩
        by_cases q : c = a
        · refine ⟨(zv s1 49).toNat, ?_, by omega, by omega, ?_⟩
          · rw [q, za_pa, if_pos rfl, if_pos rfl]
            omega
          · rw [f3.a 51 _ rfl]
            exact (q4 (zv s1 49).toNat (by omega)).2.1
        · rcases List.mem_append.mp hc with hc | hc
          · obtain ⟨e2, y1, y2, y3, y4⟩ := eP c hc
            exact ⟨e2, by rw [za_pa, if_pos rfl, if_neg q, fe.a 30 c rfl]; exact y1, y2, by rw [w49]; omega, by rw [f3.a 51 e2 rfl, (q3 e2 y3).2.1]; exact y4⟩
          · exact absurd (List.mem_singleton.mp hc) q
      have fixN : ∀ (v r : Int) (s2 : zS), cEn s1 s2 r (gmK (za s0 25 n)) v 0 0 → cEn s1 s2 (za s2 50 (zv s1 49).toNat) (gmK (za s0 25 n)) v 0 0 := fun v r s2 ⟨a1, a2, a3, a4, a5⟩ => ⟨a1, a2, a3, a4, fun e he => by
        have ee : e = (zv s1 49).toNat := by omega
        obtain ⟨-, d⟩ := a5 e he
        rw [← ee]
        exact ⟨rfl, d⟩⟩
      have J : ∀ y0 : Int, y0 = gmK (za s0 25 n) → wr_declaration_158 (fun s' => kL Qc (m + 4 * sz n - 1) s') (wr_declaration_133 (fun s' => kL Qc (m + 4 * sz n - 1) s') m2) s1 n (za s0 25 n) a y0 := fun y0 hy0 => by
        subst hy0
        unfold wr_declaration_158
        refine sp_nameToken s1 a (by omega) ⟨u1, u2⟩ (fun r => ⟨by omega, by omega, fun n52 => ?_, fun k52 => ?_⟩)
        · rw [Int.toNat_natCast]
          refine sp_declare s1 _ _ _ 0 0 0 en1.1 (by omega) g1.bb.1 g1.bb.2 u1 u2 g1.tk (fun s2 en t => ⟨by omega, by omega, by omega, by omega, nxt 0 s2 (fixN 0 _ s2 en) t (fun _ => ⟨by omega, by omega⟩) (fun q => ?_)⟩)
          unfold gmK at q
          rcases hK with z | z | z
          · rw [z] at q; exact absurd q (by decide)
          · rw [z] at q; exact absurd q (by decide)
          · exact absurd z n52
        · rw [Int.toNat_natCast]
          refine sp_declare s1 _ _ _ a 0 0 en1.1 (by omega) g1.bb.1 g1.bb.2 u1 u2 g1.tk (fun s2 en t => ⟨by omega, by omega, by omega, by omega, nxt a s2 (fixN a _ s2 en) t (fun q => ?_) (fun _ => ⟨a, rfl, hr.kid ha, Or.inr ⟨h56 a ha, n, ha, hw, k52⟩⟩)⟩)
          unfold gmK at q
          rw [k52] at q
          exact absurd q (by decide)
      unfold wr_declaration_133
      unfold wr_declaration_133B
      refine ⟨fun c => absurd c (by omega), fun _ => ⟨fun n50 => ⟨fun n51 => J 3 ?_, fun k51 => J 2 ?_⟩, fun k50 => J 1 ?_⟩⟩
      · unfold gmK
        rw [if_neg n50, if_neg n51]
      · unfold gmK
        rw [k51]
        rfl
      · unfold gmK
        rw [k50]
        rfl
  refine L1 (kids n) _ _ s [] (by omega) ?_ rfl ⟨zSm.rf, g, cC.rf, hx.2.2.2.2, by show zv s 49 = zv s 49 + ((0 : Nat) : Int); omega, fun c hc => absurd hc List.not_mem_nil⟩
  rw [g.st.a 27 n rfl]
  exact (h.ch n hn).fr (fun x _ => g.st.a 28 x rfl)
end GM

