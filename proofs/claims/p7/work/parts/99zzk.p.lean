/-! THE CHECK: THE WHOLE TREE -/
section WT
variable {s0 : zS} {kids : Nat → List Nat} {up sz : Nat → Nat} {root N : Nat} {Qc : zS → Prop}
theorem tAll (h : fF s0 kids up sz [root] N) (hN : N ≤ 2700) (hA : fA s0 kids N) (hS : ∀ k : Nat, (k : Int) < zv s0 18 → 0 ≤ za s0 16 k ∧ 0 ≤ za s0 17 k ∧ za s0 17 k ≤ 200 ∧ za s0 16 k + za s0 17 k ≤ 6000) (hS2 : zv s0 18 ≤ 3000) : ∀ (d n : Nat), sz n ≤ d → rch kids root n → wrs (za s0 25) kids root n → (kE (za s0 25 n) → tri s0 kids up sz root N Qc 1 3 n tt tt) ∧ (kC (za s0 25 n) → tri s0 kids up sz root N Qc 0 2 n tt tt) ∧ (za s0 25 n = 41 → tri s0 kids up sz root N Qc 0 13 n (fun s => za s 30 n = (up n : Int)) tt) ∧ (za s0 25 n = 54 → tri s0 kids up sz root N Qc 0 6 n (roY n) tt) ∧ (kD (za s0 25 n) → triD s0 kids up sz root N Qc 1 n tt) := by
  intro d
  induction d with
  | zero =>
    intro n hd hr hw
    have := h.ss n (h.lt hr)
    omega
  | succ d ih =>
    intro n hd hr hw
    have hn := h.lt hr
    have ik : ∀ c ∈ kids n, wrs (za s0 25) kids root c → (kE (za s0 25 c) → tri s0 kids up sz root N Qc 1 3 c tt tt) ∧ (kC (za s0 25 c) → tri s0 kids up sz root N Qc 0 2 c tt tt) ∧ (za s0 25 c = 41 → tri s0 kids up sz root N Qc 0 13 c (fun s => za s 30 c = (up c : Int)) tt) ∧ (za s0 25 c = 54 → tri s0 kids up sz root N Qc 0 6 c (roY c) tt) ∧ (kD (za s0 25 c) → triD s0 kids up sz root N Qc 1 c tt) := fun c hc w => ih c (by have := h.szk hn hc; omega) (hr.kid hc) w
    -- the kids that a run comes to
    have wk : ∀ c ∈ kids n, ([5, 27, 43, 50, 51, 54, 56, 59] : List Int).contains (za s0 25 n) = false → wrs (za s0 25) kids root c := fun c hc q => hw.kid (by rw [kr_eq q]; exact hc)
    have iE : ∀ c ∈ kids n, ([5, 27, 43, 50, 51, 54, 56, 59] : List Int).contains (za s0 25 n) = false → kE (za s0 25 c) → tri s0 kids up sz root N Qc 1 3 c tt tt := fun c hc q => (ik c hc (wk c hc q)).1
    have iC : ∀ c ∈ kids n, ([5, 27, 43, 50, 51, 54, 56, 59] : List Int).contains (za s0 25 n) = false → kC (za s0 25 c) → tri s0 kids up sz root N Qc 0 2 c tt tt := fun c hc q => (ik c hc (wk c hc q)).2.1
    have iL : ∀ c ∈ kids n, ([5, 27, 43, 50, 51, 54, 56, 59] : List Int).contains (za s0 25 n) = false → za s0 25 c = 41 → tri s0 kids up sz root N Qc 0 13 c (fun s => za s 30 c = (up c : Int)) tt := fun c hc q => (ik c hc (wk c hc q)).2.2.1
    have iR : ∀ c ∈ kids n, ([5, 27, 43, 50, 51, 54, 56, 59] : List Int).contains (za s0 25 n) = false → za s0 25 c = 54 → tri s0 kids up sz root N Qc 0 6 c (roY c) tt := fun c hc q => (ik c hc (wk c hc q)).2.2.2.1
    have iD : ∀ c ∈ kids n, ([5, 27, 43, 50, 51, 54, 56, 59] : List Int).contains (za s0 25 n) = false → kD (za s0 25 c) → triD s0 kids up sz root N Qc 1 c tt := fun c hc q => (ik c hc (wk c hc q)).2.2.2.2
    have cf : ∀ x : Int, za s0 25 n = x → ([5, 27, 43, 50, 51, 54, 56, 59] : List Int).contains x = false → ([5, 27, 43, 50, 51, 54, 56, 59] : List Int).contains (za s0 25 n) = false := fun x e q => by rw [e]; exact q
    -- what is asked of a node of a kind whose kids all are come to
    have E : ([5, 27, 43, 50, 51, 54, 56, 59] : List Int).contains (za s0 25 n) = false → ∀ c ∈ kids n, kE (za s0 25 c) → tri s0 kids up sz root N Qc 1 3 c tt tt := fun q c hc => iE c hc q
    have C : ([5, 27, 43, 50, 51, 54, 56, 59] : List Int).contains (za s0 25 n) = false → ∀ c ∈ kids n, kC (za s0 25 c) → tri s0 kids up sz root N Qc 0 2 c tt tt := fun q c hc => iC c hc q
    have L : ([5, 27, 43, 50, 51, 54, 56, 59] : List Int).contains (za s0 25 n) = false → ∀ c ∈ kids n, za s0 25 c = 41 → tri s0 kids up sz root N Qc 0 13 c (fun s => za s 30 c = (up c : Int)) tt := fun q c hc => iL c hc q
    have D : ([5, 27, 43, 50, 51, 54, 56, 59] : List Int).contains (za s0 25 n) = false → ∀ c ∈ kids n, kD (za s0 25 c) → triD s0 kids up sz root N Qc 1 c tt := fun q c hc => iD c hc q
    have ecf : kE (za s0 25 n) → ¬ za s0 25 n = 5 → ([5, 27, 43, 50, 51, 54, 56, 59] : List Int).contains (za s0 25 n) = false := fun hE q => by
      obtain ⟨e1, e2⟩ := hE
      have hk : za s0 25 n = 1 ∨ za s0 25 n = 2 ∨ za s0 25 n = 3 ∨ za s0 25 n = 4 ∨ za s0 25 n = 6 ∨ za s0 25 n = 7 ∨ za s0 25 n = 8 ∨ za s0 25 n = 9 ∨ za s0 25 n = 10 ∨ za s0 25 n = 11 ∨ za s0 25 n = 12 := by omega
      rcases hk with k | k | k | k | k | k | k | k | k | k | k <;> rw [k] <;> rfl
    have kne54 : za s0 25 n = 54 → ¬ kids n = [] := fun e q => by
      have hs := h.sh n hn
      rw [e] at hs
      obtain ⟨ra, rc, e1, -⟩ := hs.ro rfl
      rw [q] at e1
      simp at e1
    refine ⟨fun hE => tE h hN hS hS2 hr hE (fun c hc q => iE c hc (ecf hE q)) (fun c hc q => iC c hc (ecf hE q)), fun hC => ?_, fun hL => tL h hN hr hL (C (cf _ hL rfl)), fun hR => tR h hN hr hR (fun c e => by subst e; exact fun q => (ik _ (lk_mem (kne54 hR)) (hw.bod hR)).1 q) (fun c e => by subst e; exact fun q => (ik _ (lk_mem (kne54 hR)) (hw.bod hR)).2.1 q), fun hD => ?_⟩
    · obtain ⟨c1, c2⟩ := hC
      have hk : za s0 25 n = 20 ∨ za s0 25 n = 21 ∨ (za s0 25 n = 22 ∨ za s0 25 n = 23) ∨ za s0 25 n = 24 ∨ (za s0 25 n = 25 ∨ za s0 25 n = 26) ∨ za s0 25 n = 27 ∨ za s0 25 n = 28 ∨ (za s0 25 n = 29 ∨ za s0 25 n = 30 ∨ za s0 25 n = 31 ∨ za s0 25 n = 32 ∨ za s0 25 n = 34 ∨ za s0 25 n = 37) ∨ za s0 25 n = 33 ∨ za s0 25 n = 35 ∨ za s0 25 n = 36 ∨ za s0 25 n = 38 ∨ (za s0 25 n = 39 ∨ za s0 25 n = 40) := by omega
      rcases hk with k | k | k | k | k | k | k | k | k | k | k | k | k
      · exact tC_20 h hN hA hr k (E (cf _ k rfl))
      · exact tC_21 h hN hr k (E (cf _ k rfl)) (C (cf _ k rfl))
      · have q : ([5, 27, 43, 50, 51, 54, 56, 59] : List Int).contains (za s0 25 n) = false := by rcases k with k | k <;> rw [k] <;> rfl
        exact tC_if h hN hr k (E q) (C q)
      · exact tC_24 h hN hr k (E (cf _ k rfl)) (C (cf _ k rfl))
      · have q : ([5, 27, 43, 50, 51, 54, 56, 59] : List Int).contains (za s0 25 n) = false := by rcases k with k | k <;> rw [k] <;> rfl
        exact tC_wh h hN hr k (E q) (C q)
      · refine tC_27 h hN hr k (fun c hc => ?_) (fun c e => ?_)
        · exact (ik c (List.mem_of_mem_take hc) (hw.kid (by unfold kr; rw [if_neg (by rw [k]; decide), if_pos k]; exact List.mem_append.mpr (Or.inl hc)))).1
        · subst e
          exact (ik _ (lk_mem (h.kne hn k)) (hw.kid (by unfold kr; rw [if_neg (by rw [k]; decide), if_pos k]; exact List.mem_append.mpr (Or.inr (List.mem_cons_self ..))))).2.1
      · exact tC_28 h hN hr k (E (cf _ k rfl)) (L (cf _ k rfl))
      · exact tC_end h hN hr k
      · exact tC_33 h hN hr k (E (cf _ k rfl)) (C (cf _ k rfl))
      · exact tC_35 h hN hr k
      · exact tC_36 h hN hr k (L (cf _ k rfl)) (D (cf _ k rfl))
      · exact tC_38 h hN hr k (C (cf _ k rfl))
      · have q : ([5, 27, 43, 50, 51, 54, 56, 59] : List Int).contains (za s0 25 n) = false := by rcases k with k | k <;> rw [k] <;> rfl
        exact tC_rw h hN hr k (E q) (C q)
    · obtain ⟨d1, d2⟩ := hD
      by_cases k53 : za s0 25 n = 53
      · rcases (h.sh n hn).le k53 with q | ⟨q1, q2⟩
        · obtain ⟨v, ek, ev⟩ := map1 q
          have mv : v ∈ kids n := by rw [ek]; exact List.mem_cons_self ..
          have hv := (h.kd n hn v mv).1
          exact tD_va h hN hr k53 ek ev (fun c hc => (ih c (by have := h.szk hn mv; have := h.szk hv hc; omega) ((hr.kid mv).kid hc) ((wk v mv (cf _ k53 rfl)).kid (by rw [kr_eq (by rw [ev]; rfl)]; exact hc))).1)
        · have h54 : ∀ c ∈ kids n, za s0 25 c = 54 := fun c hc => q2 _ (List.mem_map.mpr ⟨c, hc, rfl⟩)
          exact tD_ro h hN hr (fun c hc => wk c hc (cf _ k53 rfl)) k53 (fun e => q1 (by rw [e]; rfl)) h54 (fun c hc => iR c hc (cf _ k53 rfl) (h54 c hc))
      · exact tD_gm h hN hr hw (by omega)
end WT
/-- what the check leaves: the tree's state ahead of it, its own -/
def ckR (kids : Nat → List Nat) (up sz : Nat → Nat) (root : Nat) (s4 s' : zS) : Prop :=
  fF s4 kids up sz [root] (root + 1) ∧ fA s4 kids (root + 1) ∧ za s4 25 root = 60 ∧ GI s4 kids root s' ∧ zv s' 76 = zv s4 76 ∧
  (zv s' 12 = 0 → zv s' 81 ≤ 1600 ∧ zv s' 69 ≤ 200 ∧ (∀ r : Nat, (r : Int) < zv s' 69 → za s' 70 r ≤ 32000 ∧ RF s4 kids up root (root + 1) s' root r) ∧ (∀ c ∈ kids root, FA s4 kids up root (root + 1) s' (zv s' 75) c) ∧ ∃ x : Nat, zv s' 82 = x ∧ za s4 25 x = 54 ∧ ∃ c ∈ kids root, rin (za s4 25) kids c x)
theorem sp_lib (s : zS) (a b k : Int) (hN : pN s) (h0 : 0 ≤ zv s 49) (h1 : zv s 49 < 9000) (hk : 0 ≤ k) (hk2 : k ≤ 17) {Q : zS → Prop} (hq : ∀ s', zSm s s' [50, 51, 52, 53, 54] [49] → zv s 49 ≤ zv s' 49 → zv s' 49 ≤ zv s 49 + 1 → (∀ e : Nat, (e : Int) < zv s' 49 → (e : Int) < zv s 49 ∧ za s' 51 e = za s 51 e ∨ za s' 51 e = 6) → Q s') : wr_lib s a b k Q := by
  obtain ⟨n0, n1, n2⟩ := hN
  have L : ∀ (m : Nat) (x6 x7 : Int), 0 ≤ x7 → x7 ≤ zv s 5 → zv s 5 - x7 < m → wr_lib_6 Q m s a b k x6 x7 := by
    intro m
    induction m with
    | zero => intro x6 x7 h2 h3 h4; omega
    | succ m ih =>
      intro x6 x7 h2 h3 h4
      unfold wr_lib_6
      unfold wr_lib_6B
      refine ⟨fun c => ⟨fun _ => hq s zSm.rf (Int.le_refl _) (by omega) (fun e he => Or.inl ⟨he, rfl⟩), fun _ => ⟨⟨by omega, by omega⟩, ?_⟩⟩, fun c => ⟨by omega, by omega, by omega, by omega, ?_⟩⟩
      · refine ffm_entry (sp_entry s _ _ _ _ _ h0 h1) ?_
        rintro r s' - ⟨-, f, en⟩
        obtain ⟨-, -, e1, e2, e3⟩ := en
        refine hq s' f (by omega) (by omega) (fun e he => ?_)
        by_cases c2 : (e : Int) < zv s 49
        · exact Or.inl ⟨c2, (e2 e c2).2.1⟩
        · exact Or.inr (e3 e (by omega)).2.1
      · have hx := n2 x7.toNat (by omega)
        refine ffm_isText (sp_isText s _ _ a b hx.1 (by omega)) ?_
        rintro r s' - ⟨rfl, -⟩
        exact ⟨fun _ => ⟨⟨by omega, by omega⟩, ih _ _ (by omega) (by omega) (by omega)⟩, fun _ => ⟨⟨by omega, by omega⟩, ih _ _ (by omega) (by omega) (by omega)⟩⟩
  unfold wr_lib
  exact ⟨(zv s 5).toNat + 1, L _ _ _ (by omega) n0 (by omega)⟩
/-- the library's names: k of them at most -/
def liS (s s' : zS) (k : Int) : Prop := zSm s s' [50, 51, 52, 53, 54] [49] ∧ 0 ≤ zv s' 49 ∧ zv s' 49 ≤ k ∧ ∀ e : Nat, (e : Int) < zv s' 49 → za s' 51 e = 6
theorem liS.st {s s1 : zS} {a b k : Int} (h : liS s s1 k) (hN : pN s) (hk : 0 ≤ k) (hk2 : k ≤ 17) {Q : zS → Prop} (hq : ∀ s', liS s s' (k + 1) → Q s') : wr_lib s1 a b k Q := by
  obtain ⟨f, h0, h1, h2⟩ := h
  obtain ⟨n0, n1, n2⟩ := hN
  refine sp_lib s1 a b k ⟨by rw [f.v 5 rfl]; exact n0, by rw [f.v 5 rfl]; exact n1, fun j hj => by rw [f.v 5 rfl] at hj; rw [f.a 6 j rfl, f.a 7 j rfl]; exact n2 j hj⟩ h0 (by omega) hk hk2 (fun s' f' g1 g2 g3 => hq s' ⟨f.tr f' rfl rfl, by omega, by omega, fun e he => ?_⟩)
  rcases g3 e he with ⟨q1, q2⟩ | q
  · rw [q2]; exact h2 e q1
  · exact q
theorem sp_library (s : zS) (hN : pN s) {Q : zS → Prop} (hq : ∀ s', liS s s' 18 → Q s') : wr_library s Q := by
  have h0 : liS s (zpv s 49 0) 0 := ⟨zSm.rf.pv rfl, Int.le_refl 0, Int.le_refl 0, fun e he => absurd (show (e : Int) < 0 from he) (by omega)⟩
  unfold wr_library

  refine h0.st hN (by decide) (by decide) (fun t1 h1 => ?_)
  refine h1.st hN (by decide) (by decide) (fun t2 h2 => ?_)
  refine h2.st hN (by decide) (by decide) (fun t3 h3 => ?_)
  refine h3.st hN (by decide) (by decide) (fun t4 h4 => ?_)
  refine h4.st hN (by decide) (by decide) (fun t5 h5 => ?_)
  refine h5.st hN (by decide) (by decide) (fun t6 h6 => ?_)
  refine h6.st hN (by decide) (by decide) (fun t7 h7 => ?_)
  refine h7.st hN (by decide) (by decide) (fun t8 h8 => ?_)
  refine h8.st hN (by decide) (by decide) (fun t9 h9 => ?_)
  refine h9.st hN (by decide) (by decide) (fun t10 h10 => ?_)
  refine h10.st hN (by decide) (by decide) (fun t11 h11 => ?_)
  refine h11.st hN (by decide) (by decide) (fun t12 h12 => ?_)
  refine h12.st hN (by decide) (by decide) (fun t13 h13 => ?_)
  refine h13.st hN (by decide) (by decide) (fun t14 h14 => ?_)
  refine h14.st hN (by decide) (by decide) (fun t15 h15 => ?_)
  refine h15.st hN (by decide) (by decide) (fun t16 h16 => ?_)
  refine h16.st hN (by decide) (by decide) (fun t17 h17 => ?_)
  refine h17.st hN (by decide) (by decide) (fun t18 h18 => ?_)
  exact hq t18 h18
theorem sp_check {s : zS} {kids : Nat → List Nat} {up sz : Nat → Nat} {root : Nat} (h : fF s kids up sz [root] (root + 1)) (hA : fA s kids (root + 1)) (h60 : za s 25 root = 60) (hN : root + 1 ≤ 2700) (hS : ∀ k : Nat, (k : Int) < zv s 18 → 0 ≤ za s 16 k ∧ 0 ≤ za s 17 k ∧ za s 17 k ≤ 200 ∧ za s 16 k + za s 17 k ≤ 6000) (hS2 : zv s 18 ≤ 3000) (hNm : pN s) (h57 : ∀ e : Nat, 0 ≤ za s 57 e ∧ za s 57 e ≤ 12000) (h76 : zv s 76 = 0 ∨ zv s 76 = 1) (h12 : zv s 12 = 0) {Q : zS → Prop} (hq : ∀ s4 s', zSm s s4 [29, 30, 31, 50, 51, 52, 53, 54, 57, 60, 61, 62, 64, 65, 66, 68, 70, 71, 72, 85, 86] [12, 13, 49, 55, 58, 59, 63, 67, 69, 73, 74, 75, 76, 77, 78, 79, 80, 81, 82, 83, 84] → zv s4 76 = zv s 76 → ckR kids up sz root s4 s' → Q s') : wr_check s Q := by
  have e24 : zv s 24 = ((root + 1 : Nat) : Int) := h.nN
  have hrN : root < root + 1 := by omega
  obtain ⟨n0, n1, n2⟩ := id hNm
  unfold wr_check
  refine sp_library s hNm (fun s2 li => ?_)
  obtain ⟨f2, l0, l1, l2⟩ := li
  rw [e24, show ((root + 1 : Nat) : Int) - 1 = (root : Int) by omega]
  refine ⟨⟨by omega, by omega⟩, (zv s 5).toNat + 1, ?_⟩
  have F3 : zSm s2 (zpv (zpv (zpv (zpv (zpv (zpv (zpv (zpv (zpv (zpv (zpv (zpv (zpv (zpv s2 63 0) 67 0) 69 0) 73 (-1)) 74 0) 75 0) 77 0) 78 0) 79 0) 80 0) 81 100) 84 0) 82 (-1)) 83 (-1)) [] [63, 67, 69, 73, 74, 75, 77, 78, 79, 80, 81, 82, 83, 84] := (((((((((((((zSm.rf.pv rfl).pv rfl).pv rfl).pv rfl).pv rfl).pv rfl).pv rfl).pv rfl).pv rfl).pv rfl).pv rfl).pv rfl).pv rfl).pv rfl
  have V : ∀ t : zS, t = zpv (zpv (zpv (zpv (zpv (zpv (zpv (zpv (zpv (zpv (zpv (zpv (zpv (zpv s2 63 0) 67 0) 69 0) 73 (-1)) 74 0) 75 0) 77 0) 78 0) 79 0) 80 0) 81 100) 84 0) 82 (-1)) 83 (-1) → zv t 63 = 0 ∧ zv t 67 = 0 ∧ zv t 69 = 0 ∧ zv t 73 = -1 ∧ zv t 74 = 0 ∧ zv t 77 = 0 ∧ zv t 78 = 0 ∧ zv t 79 = 0 ∧ zv t 80 = 0 ∧ zv t 81 = 100 ∧ zv t 84 = 0 ∧ zv t 82 = -1 := fun t e => by subst e; exact ⟨rfl, rfl, rfl, rfl, rfl, rfl, rfl, rfl, rfl, rfl, rfl, rfl⟩
  have V3 := V _ rfl
  generalize zpv (zpv (zpv (zpv (zpv (zpv (zpv (zpv (zpv (zpv (zpv (zpv (zpv (zpv s2 63 0) 67 0) 69 0) 73 (-1)) 74 0) 75 0) 77 0) 78 0) 79 0) 80 0) 81 100) 84 0) 82 (-1)) 83 (-1) = s3 at F3 V3
  clear V
  have f3 : zSm s s3 [50, 51, 52, 53, 54] [49, 63, 67, 69, 73, 74, 75, 77, 78, 79, 80, 81, 82, 83, 84] := (zSm.rf.tr f2 rfl rfl : zSm s s2 [50, 51, 52, 53, 54] [49, 63, 67, 69, 73, 74, 75, 77, 78, 79, 80, 81, 82, 83, 84]).tr F3 rfl rfl
  have w49 : zv s3 49 = zv s2 49 := F3.v 49 rfl
  obtain ⟨v63, v67, v69, v73, v74, v77, v78, v79, v80, v81, v84, v82⟩ := V3
  -- behind the names: the tree
  have T : ∀ t, zSm s3 t [] [83] → wr_children (zpv t 55 (zv t 49)) root 1 (fun s6 => ∃ n, wr_check_140 Q n s6) := fun t ft => by
    have fs4 : zSm t (zpv t 55 (zv t 49)) [] [55] := zSm.rf.pv rfl
    have z55 : zv (zpv t 55 (zv t 49)) 55 = zv t 49 := rfl
    generalize zpv t 55 (zv t 49) = s4 at fs4 z55
    have f34 : zSm s3 s4 [] [55, 83] := (zSm.rf.tr ft rfl rfl : zSm s3 t [] [55, 83]).tr fs4 rfl rfl
    have f04 : zSm s s4 [50, 51, 52, 53, 54] [49, 55, 63, 67, 69, 73, 74, 75, 77, 78, 79, 80, 81, 82, 83, 84] := (zSm.rf.tr f3 rfl rfl : zSm s s3 [50, 51, 52, 53, 54] [49, 55, 63, 67, 69, 73, 74, 75, 77, 78, 79, 80, 81, 82, 83, 84]).tr f34 rfl rfl
    have h4 : fF s4 kids up sz [root] (root + 1) := h.sm f04 rfl rfl
    have hA4 : fA s4 kids (root + 1) := hA.fr (fun n _ => ⟨rfl, f04.a 25 n rfl⟩) (fun n _ _ => f04.a 29 n rfl) (fun n _ x _ => f04.a 32 x rfl)
    have h460 : za s4 25 root = 60 := by rw [f04.a 25 root rfl]; exact h60
    have x49 : zv s4 49 = zv s2 49 := by rw [f34.v 49 rfl]; exact w49
    have y55 : zv s4 55 = zv s4 49 := by rw [z55, fs4.v 49 rfl]
    have y63 : zv s4 63 = 0 := by rw [f34.v 63 rfl]; exact v63
    have y67 : zv s4 67 = 0 := by rw [f34.v 67 rfl]; exact v67
    have y69 : zv s4 69 = 0 := by rw [f34.v 69 rfl]; exact v69
    have y73 : zv s4 73 = -1 := by rw [f34.v 73 rfl]; exact v73
    have y74 : zv s4 74 = 0 := by rw [f34.v 74 rfl]; exact v74
    have y77 : zv s4 77 = 0 := by rw [f34.v 77 rfl]; exact v77
    have y78 : zv s4 78 = 0 := by rw [f34.v 78 rfl]; exact v78
    have y79 : zv s4 79 = 0 := by rw [f34.v 79 rfl]; exact v79
    have y80 : zv s4 80 = 0 := by rw [f34.v 80 rfl]; exact v80
    have y81 : zv s4 81 = 100 := by rw [f34.v 81 rfl]; exact v81
    have y84 : zv s4 84 = 0 := by rw [f34.v 84 rfl]; exact v84
    have y82 : zv s4 82 = -1 := by rw [f34.v 82 rfl]; exact v82
    have y76 : zv s4 76 = zv s 76 := f04.v 76 rfl
    have k6 : ∀ e : Nat, (e : Int) < zv s4 49 → za s4 51 e = 6 := fun e he => by
      have : za s4 51 e = za s2 51 e := by rw [f34.a 51 e rfl, F3.a 51 e rfl]
      rw [this]
      exact l2 e (by omega)
    have g4 : GI s4 kids root s4 := by
      refine ⟨zSm.rf, fun _ _ _ _ _ => rfl, by omega, fun e => by rw [f04.a 57 e rfl]; exact h57 e, fun e he => ?_, by omega, by omega, by omega, fun q => by omega, by omega, by rw [y76]; exact h76, by omega, by omega, by omega, by omega, by omega, by omega, fun k hk => by omega⟩
      have := k6 e he
      unfold eOk
      rw [this]
      exact ⟨⟨by decide, by decide⟩, fun k => absurd k (by decide), fun k => absurd k (by decide), fun k => absurd k (by decide), fun k => absurd k (by decide)⟩
    have hkl : ∀ c ∈ kids root, c < root + 1 := fun c hc => (h4.kd root hrN c hc).1
    have hD : ∀ c ∈ kids root, kD (za s4 25 c) := fun c hc => ((h4.sh root hrN).tx h460).2 _ (List.mem_map.mpr ⟨c, hc, rfl⟩)
    have hcx : ∀ c ∈ kids root, cxF (za s4 25) up root (root + 1) c = cxT := fun c hc => by
      rw [cxF_kid _ h4 (rch.rt kids root) hc, h460, cxF_rt]
      exact cxS_o rfl
    have x4 : cX s4 kids s4 cxT := ⟨fun q => absurd y79 q, fun q => absurd y80 q, fun q => absurd y77 q, fun _ => Or.inl rfl, fun e he => by
      rw [k6 e he]
      exact ⟨fun k => absurd k (by decide), fun k => absurd k (by decide)⟩⟩
    have hzr : sz root = root + 1 := by
      have := h4.ws
      simpa using this
    have hzk : sz root = 1 + szs sz (kids root) := h4.ss root hrN
    have hlen : (kids root).length ≤ szs sz (kids root) := len_sum h4 hkl
    have hub : szs (ub (za s4 25) kids sz) (kids root) ≤ szs sz (kids root) := by
      have := lab_ubs h4 hkl
      omega
    have k4 : cTk s4 [] := ⟨trivial, y63⟩
    refine sp_children k4 (by omega) (by rw [f04.a 27 root rfl |> fun _ => (rfl : za s4 27 root = za s4 27 root)]; exact h4.ch root hrN) (fun c hc => by have := hkl c hc; omega) (by show 0 + _ ≤ 26000; omega) (fun s5 k5 f5 => ?_)
    have g5 := g4.sm f5 rfl rfl rfl rfl
    have p5 : cP s4 s5 (fun _ => False) 0 := cP.sm f5 (fm.sm f5 rfl) rfl rfl rfl
    have x5 : cX s4 kids s5 cxT := x4.fr p5 (f5.v 49 rfl)
    have B5 : cB s5 (szs sz (kids root)) (szs (ub (za s4 25) kids sz) (kids root)) 0 := by
      unfold cB
      rw [f5.v 49 rfl, f5.v 67 rfl, f5.v 69 rfl, f5.v 81 rfl, f5.v 78 rfl, f5.v 79 rfl, f5.v 80 rfl]
      omega
    -- the end
    have fin : ∀ s6, cTk s6 [] → PBc s4 kids up sz root (root + 1) s5 s6 (kids root) → kL Q 1 s6 := fun s6 k7 p6 => by
      intro M hM
      obtain ⟨M, rfl⟩ : ∃ q, M = q + 1 := ⟨M - 1, by omega⟩
      have e63 : zv s6 63 = 0 := k7.2
      obtain ⟨p, g6, nw, fa, st⟩ := p6
      have q76 : zv s6 76 = zv s4 76 := by rw [p.s76, f5.v 76 rfl]
      have r0 := g6.ro.1
      have r2 := p.r2
      have e69 : zv s5 69 = 0 := by rw [f5.v 69 rfl]; exact y69
      have bad : ∀ x, wr_fault s6 7 x Q := fun x => by
        refine ffm_fault (sp_faultN s6 7 x (by decide)) ?_
        rintro s7 - ⟨f7, q7⟩
        exact hq s4 s7 (zSm.rf.tr f04 rfl rfl) y76 ⟨h4, hA4, h460, g6.sm f7 rfl rfl rfl rfl, by rw [f7.v 76 rfl]; exact q76, fun z => absurd z q7⟩
      have L : ∀ (m : Nat) (x2 : Int) (i : Nat), (i : Int) ≤ zv s6 69 → zv s6 69 - i < m → (x2 = 0 → zv s6 12 = 0 ∧ zv s6 81 ≤ 1600 ∧ zv s6 69 ≤ 200 ∧ ∀ r : Nat, r < i → za s6 70 r ≤ 32000) → wr_check_227 Q m s6 x2 i := by
        intro m
        induction m with
        | zero => intro x2 i h1 h2; omega
        | succ m ih =>
          intro x2 i h1 h2 h3
          unfold wr_check_227
          unfold wr_check_227B
          rw [Int.toNat_natCast, show (i : Int) + 1 = ((i + 1 : Nat) : Int) by omega]
          refine ⟨fun c => ⟨fun _ => bad 0, fun c82 => ⟨fun c0 => ?_, fun _ => bad 0⟩⟩, fun c => ⟨fun _ => ⟨⟨by omega, by omega⟩, ih 1 (i + 1) (by omega) (by omega) (fun q => absurd q (by decide))⟩, fun c0 => ⟨by omega, by omega, fun cm => ⟨⟨by omega, by omega⟩, ih 0 (i + 1) (by omega) (by omega) (fun _ => ?_)⟩, fun cm => ⟨⟨by omega, by omega⟩, ih 1 (i + 1) (by omega) (by omega) (fun q => absurd q (by decide))⟩⟩⟩⟩
          · obtain ⟨z, a1, a2, a3⟩ := h3 c0
            refine hq s4 s6 (zSm.rf.tr f04 rfl rfl) y76 ⟨h4, hA4, h460, g6, q76, fun _ => ⟨a1, a2, fun r hr => ⟨a3 r (by omega), ?_⟩, fun d hd => fa z d hd, ?_⟩⟩
            · obtain ⟨d, hd, q⟩ := nw r (by omega) hr
              exact q.upw ((rch.rt kids root).kid hd)
            · rcases st with q | ⟨-, d, hd, x, q1, q2, q3⟩
              · rw [q, f5.v 82 rfl] at c82
                omega
              · exact ⟨x, q1, q2, d, hd, q3⟩
          · obtain ⟨z, a1, a2, a3⟩ := h3 c0
            refine ⟨z, a1, a2, fun r hr => ?_⟩
            by_cases e : r = i
            · rw [e]; exact cm
            · exact a3 r (by omega)
      unfold wr_check_140
      unfold wr_check_140B
      refine ⟨fun _ => ⟨fun z => ⟨fun _ => ⟨(zv s6 69).toNat + 1, L _ 1 0 (by omega) (by omega) (fun q => absurd q (by decide))⟩, fun c1 => ⟨fun c2 => ⟨(zv s6 69).toNat + 1, L _ 0 0 (by omega) (by omega) (fun _ => ⟨z, by omega, c2, fun r hr => absurd hr (Nat.not_lt_zero _)⟩)⟩, fun _ => ⟨(zv s6 69).toNat + 1, L _ 1 0 (by omega) (by omega) (fun q => absurd q (by decide))⟩⟩⟩, fun z => ?_⟩, fun c => absurd (by omega) c⟩
      exact hq s4 s6 (zSm.rf.tr f04 rfl rfl) y76 ⟨h4, hA4, h460, g6, q76, fun z2 => absurd z2 z⟩
    refine ⟨1 + 4 * szs sz (kids root), (seqD h4 hrN (fun _ => 1) (Y := fun _ => tt) stb_tt cxT (kids root) (fun c hc => hc) (h4.kn root hrN) hcx (fun c hc => ((tAll h4 hN hA4 (fun k hk => ?_) (by rw [f04.v 18 rfl]; exact hS2) (sz c) c (Nat.le_refl _) ((rch.rt kids root).kid hc) ((wrs.rt (za s4 25) kids root).kid (by rw [kr_eq (by rw [h460]; rfl)]; exact hc))).2.2.2.2 (hD c hc))) 1 s5 [] (by rw [List.append_nil] at k5 ⊢; exact k5) g5 x5 B5 (fun _ _ => trivial) (fun s6 k7 p6 _ => fin s6 k7 p6)) _ (Nat.le_refl _)⟩
    rw [f04.v 18 rfl] at hk
    rw [f04.a 16 k rfl, f04.a 17 k rfl]
    exact hS k hk
  have L84 : ∀ (m : Nat) (x2 : Int) (t : zS), 0 ≤ x2 → x2 ≤ zv s 5 → zv s 5 - x2 < m → zSm s3 t [] [83] → wr_check_84 Q m t root x2 := by
    intro m
    induction m with
    | zero => intro x2 t h1 h2 h3; omega
    | succ m ih =>
      intro x2 t h1 h2 h3 ft
      have e5 : zv t 5 = zv s 5 := by rw [ft.v 5 rfl, f3.v 5 rfl]
      unfold wr_check_84
      unfold wr_check_84B
      rw [e5]
      refine ⟨fun _ => T t ft, fun c => ⟨by omega, by omega, by omega, by omega, ?_⟩⟩
      have hx := n2 x2.toNat (by omega)
      have a6 : za t 6 x2.toNat = za s 6 x2.toNat := by rw [ft.a 6 _ rfl, f3.a 6 _ rfl]
      have a7 : za t 7 x2.toNat = za s 7 x2.toNat := by rw [ft.a 7 _ rfl, f3.a 7 _ rfl]
      refine ffm_isText (sp_isText t _ _ _ _ (by rw [a6]; exact hx.1) (by rw [a6, a7]; omega)) ?_
      rintro r s' - ⟨rfl, -⟩
      exact ⟨fun _ => ⟨⟨by omega, by omega⟩, ih _ _ (by omega) (by omega) (by omega) ft⟩, fun _ => ⟨⟨by omega, by omega⟩, ih _ _ (by omega) (by omega) (by omega) (ft.pv rfl)⟩⟩
  exact L84 _ 0 s3 (by omega) n0 (by omega) zSm.rf

