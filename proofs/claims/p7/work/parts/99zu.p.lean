/-! THE CHECK: WHAT IS SAVED -/
def sAr (s : zS) (b : Nat) : List Int → Prop
  | [] => True
  | v :: r => za s 68 (b + r.length) = v ∧ sAr s b r
theorem sAr.fr {s s' : zS} {b : Nat} : ∀ {l : List Int}, sAr s b l → (∀ i, i < b + l.length → za s' 68 i = za s 68 i) → sAr s' b l
  | [], _, _ => trivial
  | v :: r, h, e => by
    have hl : b + r.length < b + (v :: r).length := by show b + r.length < b + (r.length + 1); omega
    exact ⟨by rw [e _ hl]; exact h.1, sAr.fr h.2 (fun i hi => e i (by omega))⟩
/-- from b on l is saved, the latest first; below it, what s0 has -/
def sSt (s0 s : zS) (b : Nat) (l : List Int) : Prop := zv s 67 = (b + l.length : Nat) ∧ sAr s b l ∧ ∀ i, i < b → za s 68 i = za s0 68 i
theorem sSt.sm {s0 s s' : zS} {b : Nat} {l : List Int} {js ks : List Nat} (h : sSt s0 s b l) (f : zSm s s' js ks) (hj : js.contains 68 = false) (hk : ks.contains 67 = false) : sSt s0 s' b l := ⟨by rw [f.v 67 hk]; exact h.1, h.2.1.fr (fun i _ => f.a 68 i hj), fun i hi => by rw [f.a 68 i hj]; exact h.2.2 i hi⟩
theorem sSt.cp {s0 s s' : zS} {b w : Nat} {l : List Int} {D : Nat → Prop} (h : sSt s0 s b l) (p : cP s s' D w) : sSt s0 s' b l := by
  have h1 := h.1
  exact ⟨by rw [p.s67]; exact h1, h.2.1.fr (fun i hi => p.sv i (by omega)), fun i hi => by rw [p.sv i (by omega)]; exact h.2.2 i hi⟩
theorem sp_putS {s0 s : zS} {b : Nat} {l : List Int} {v : Int} (h : sSt s0 s b l) (hl : b + l.length < 60000) {Q : zS → Prop} (hq : ∀ s', zSm s s' [68] [67] → sSt s0 s' b (v :: l) → Q s') : wr_put s v Q := by
  obtain ⟨h1, h2, h3⟩ := h
  refine sp_put (by omega) (by omega) (fun s' f e1 e2 e3 => hq s' f ⟨?_, ⟨?_, h2.fr (fun i hi => e2 i (by omega))⟩, fun i hi => by rw [e2 i (by omega)]; exact h3 i hi⟩)
  · rw [e1, h1]
    show ((b + l.length : Nat) : Int) + 1 = ((b + (l.length + 1) : Nat) : Int)
    omega
  · rw [← e3, h1, Int.toNat_natCast]
theorem sp_pullS {s0 s : zS} {b : Nat} {l : List Int} {v : Int} (h : sSt s0 s b (v :: l)) (hl : b + l.length < 60000) {Q : Int → zS → Prop} (hq : ∀ s', zSm s s' [] [67] → sSt s0 s' b l → Q v s') : wr_pull s Q := by
  obtain ⟨h1, h2, h3⟩ := h
  have e1 : zv s 67 = ((b + l.length + 1 : Nat) : Int) := h1
  refine sp_pull (by omega) (by omega) ?_
  have e2 : (zv s 67 - 1).toNat = b + l.length := by omega
  rw [e2, h2.1]
  refine hq _ (zSm.rf.pv rfl) ⟨?_, h2.2.fr (fun _ _ => rfl), h3⟩
  rw [zv_pv, if_pos rfl]
  omega
section SU
variable {s0 : zS} {kids : Nat → List Nat} {up sz : Nat → Nat} {root N : Nat} {Qc : zS → Prop}
theorem zSm.pp {s s' : zS} {js ks : List Nat} (f : zSm s s' js ks) (j : Nat) (x : Int) : zSm (zpv s j x) (zpv s' j x) js ks := ⟨fun i hi => f.1 i hi, fun k hk => by
  show (if k = j then x else s'.1 k) = (if k = j then x else s.1 k)
  rw [f.2 k hk]⟩
/-- one more word that has its value at first -/
theorem GI.iw {s : zS} (g : GI s0 kids root s) (hw : zv s 81 ≤ 2000000) (v : Int) {Q : zS → Prop} (hq : ∀ s', zSm s s' [85, 86] [81, 84] → GI s0 kids root s' → zv s' 81 = zv s 81 + 1 → Q s') : wr_init_ s (zv s 81) v (fun s4 => zR (zv s4 81 + 1) ∧ Q (zpv s4 81 (zv s4 81 + 1))) := by
  refine sp_init s _ v g.it.1 g.it.2.1 (fun s4 f g0 g1 g2 => ?_)
  have e81 : zv s4 81 = zv s 81 := f.v 81 rfl
  have hwd := g.wd
  rw [e81]
  have g81 := g.p81 (x := zv s 81 + 1) (by omega)
  refine ⟨⟨by omega, by omega⟩, hq _ ((zSm.rf.tr f rfl rfl : zSm s s4 [85, 86] [81, 84]).pv rfl) (g81.ini (a := zv s 81) (f.pp 81 _) g0 g1 g2 ⟨by omega, Or.inr (by show zv s 81 < zv s 81 + 1; omega)⟩) rfl⟩
/-- words made: what is between -/
def sW (s0 : zS) (kids : Nat → List Nat) (root : Nat) (s s' : zS) (n : Int) : Prop := zSm s s' [60, 61, 62, 85, 86] [12, 13, 58, 59, 81, 84] ∧ fm s s' ∧ GI s0 kids root s' ∧ zv s' 81 = zv s 81 + n
theorem sW.cP {s s' : zS} {D : Nat → Prop} {n : Int} {w : Nat} (h : sW s0 kids root s s' n) (h0 : 0 ≤ n) (hw : n ≤ 60 * w) : cP s s' D w := by
  obtain ⟨f, m, g, e⟩ := h
  refine ⟨m, f.v 67 rfl, fun i _ => f.a 68 i rfl, by rw [f.v 49 rfl]; exact Int.le_refl _, by rw [f.v 49 rfl]; omega, fun e _ => ⟨f.a 50 e rfl, f.a 51 e rfl, f.a 52 e rfl, f.a 53 e rfl, fun _ => f.a 54 e rfl⟩, f.v 55 rfl, f.v 73 rfl, f.v 76 rfl, f.v 77 rfl, f.v 79 rfl, f.v 80 rfl, by rw [f.v 75 rfl]; exact Int.le_refl _, by omega, by omega, by rw [f.v 69 rfl]; exact Int.le_refl _, by rw [f.v 69 rfl]; omega, fun r _ => ⟨f.a 70 r rfl, f.a 71 r rfl, f.a 72 r rfl⟩, by rw [f.v 78 rfl]; exact Int.le_refl _, by rw [f.v 78 rfl]; omega, fun x _ => ⟨f.a 29 x rfl, f.a 30 x rfl, f.a 31 x rfl⟩⟩
theorem sp_string {s : zS} (g : GI s0 kids root s) (hS : ∀ k : Nat, (k : Int) < zv s0 18 → 0 ≤ za s0 16 k ∧ 0 ≤ za s0 17 k ∧ za s0 17 k ≤ 200 ∧ za s0 16 k + za s0 17 k ≤ 6000) (hS2 : zv s0 18 ≤ 3000) (n k : Nat) (hn : n < 26000) (hk : za s 29 n = k) (hk2 : (k : Int) < zv s0 18) (hw : zv s 81 ≤ 1000000) {Q : zS → Prop} (hq : ∀ s' x, 0 ≤ x → x ≤ 51 → sW s0 kids root (zpa s 31 n (zv s 81)) s' x → Q s') : wr_string s n Q := by
  obtain ⟨q1, q2, q3, q4⟩ := hS k hk2
  have g1 : GI s0 kids root (zpa s 31 n (zv s 81)) := g.sm (js := [31]) (ks := []) (zSm.rf.pa rfl) rfl rfl rfl rfl
  have e17 : za s 17 k = za s0 17 k := g.st.a 17 k rfl
  have L2 : ∀ (x : Nat) (kk : zS → Int → Int → Int → Prop) (s1 : zS), (x : Int) ≤ 50 → 4 * (x : Int) ≤ za s0 17 k → sW s0 kids root (zpa s 31 n (zv s 81)) s1 x → (∀ s2, sW s0 kids root (zpa s 31 n (zv s 81)) s2 ((x + 1 : Nat) : Int) → kk s2 k (za s0 17 k + 1) (4 * ((x + 1 : Nat) : Int))) → ∀ (m : Nat) (v b : Int), -1 ≤ b → b ≤ 3 → b + 1 < m → wr_string_41 Q kk m s1 k (za s0 17 k + 1) (4 * (x : Int)) v b := by
    intro x kk s1 hx hx2 w hkk m
    induction m with
    | zero => intro v b h1 h2 h3; omega
    | succ m ih =>
      intro v b h1 h2 h3
      obtain ⟨f, fmm, gg, e⟩ := id w
      have e81 : zv (zpa s 31 n (zv s 81)) 81 = zv s 81 := rfl
      have o16 : za s1 16 k = za s0 16 k := gg.st.a 16 k rfl
      unfold wr_string_41
      unfold wr_string_41B
      rw [Int.toNat_natCast, o16]
      refine ⟨fun c => ?_, fun c => ⟨⟨by omega, by omega⟩, fun c2 => ⟨fun c3 => ⟨⟨by omega, by omega⟩, ih _ _ (by omega) (by omega) (by omega)⟩, fun c3 => ⟨by omega, by omega, by omega, by omega, ⟨by omega, by omega⟩, ih _ _ (by omega) (by omega) (by omega)⟩⟩, fun c2 => ⟨by omega, by omega, ⟨by omega, by omega⟩, ih _ _ (by omega) (by omega) (by omega)⟩⟩⟩
      have := gg.iw (by omega) v (Q := fun s5 => kk s5 k (za s0 17 k + 1) (4 * ((x + 1 : Nat) : Int))) (fun s5 f5 g5 e5 => hkk s5 ⟨(f.tr f5 rfl rfl), fmm.tr (fm.sm f5 rfl), g5, by omega⟩)
      refine ffm_init_ this ?_
      rintro s4 - ⟨r1, r2⟩
      refine ⟨r1, ⟨by omega, by omega⟩, ?_⟩
      rw [show 4 * (x : Int) + 4 = 4 * ((x + 1 : Nat) : Int) by omega]
      exact r2
  have L1 : ∀ (m x : Nat) (s1 : zS), 4 * (x : Int) ≤ za s0 17 k + 4 → 210 < (m : Int) + 4 * x → 0 < m → sW s0 kids root (zpa s 31 n (zv s 81)) s1 x → wr_string_29 Q m s1 k (za s0 17 k + 1) (4 * (x : Int)) := by
    intro m
    induction m with
    | zero => intro x s1 h1 h2 h3; omega
    | succ m ih =>
      intro x s1 h1 h2 _ w
      unfold wr_string_29
      unfold wr_string_29B
      refine ⟨fun c => hq s1 x (by omega) (by omega) w, fun c => ⟨6, L2 x _ s1 (by omega) (by omega) w (fun s2 w2 => ih (x + 1) s2 (by omega) (by omega) (by omega) w2) 6 0 3 (by omega) (by omega) (by omega)⟩⟩
  unfold wr_string
  rw [Int.toNat_natCast, hk, Int.toNat_natCast, e17]
  exact ⟨by omega, by omega, by omega, by omega, by omega, by omega, ⟨by omega, by omega⟩, 300, L1 300 0 _ (by omega) (by omega) (by omega) ⟨zSm.rf, fm.rf, g1, by show zv s 81 = zv s 81 + 0; omega⟩⟩
theorem tE_3 (h : fF s0 kids up sz [root] N) (hN : N ≤ 2700) (hS : ∀ k : Nat, (k : Int) < zv s0 18 → 0 ≤ za s0 16 k ∧ 0 ≤ za s0 17 k ∧ za s0 17 k ≤ 200 ∧ za s0 16 k + za s0 17 k ≤ 6000) (hS2 : zv s0 18 ≤ 3000) {n : Nat} (hr : rch kids root n) (hK : za s0 25 n = 3) : tri s0 kids up sz root N Qc 1 3 n tt tt := by
  have hn := h.lt hr
  have hz : 1 ≤ sz n := by have := h.ss n hn; omega
  obtain ⟨s1, s2⟩ := h.st n hn hK
  have hsh := h.sh n hn
  rw [hK] at hsh
  have hkid : kids n = [] := List.map_eq_nil_iff.mp (hsh.lf (by decide))
  refine tri.mk (by omega) h hn hY_tt (fun m s l k1 hl hp _ hq => go_3 (eo_3 (by omega) (by rw [hp.1.st.a 25 n rfl]; exact hK) ?_))
  obtain ⟨g, hx, hb⟩ := hp
  have e29 : za s 29 n = za s0 29 n := g.sa n (by omega) (by omega) (by omega) (by omega)
  have hb4 := hb.2.2.2.1
  refine sp_string g hS hS2 n (za s0 29 n).toNat (by omega) (by omega) (by omega) (by omega) (fun s' x x0 x1 w => ?_)
  have f0 : zSm s (zpa s 31 n (zv s 81)) [31] [] := zSm.rf.pa rfl
  have o : cP s (zpa s 31 n (zv s 81)) (fun x => x = n) 0 := cP.own f0 (fm.sm f0 rfl) rfl rfl (fun x hx => ⟨rfl, rfl, by rw [za_pa, if_pos rfl, if_neg hx]⟩)
  have p := o.tr (w.cP (D := fun x => x = n) (w := 1) x0 (by omega)) (D := fun x => x = n) (w := sz n) (fun _ q => q) (fun _ q => q) (by omega)
  exact (hq s' ((k1.sm f0 rfl rfl).sm w.1 rfl rfl) (PB.leaf h hn (by rw [kr_eq (by rw [hK]; rfl)]; exact hkid) p w.2.2.1 (w.1.v 69 rfl) (w.1.v 82 rfl) (w.1.v 49 rfl) (w.1.v 74 rfl) (fun _ => fac_no (by rw [hK]; rfl))) trivial).le (by omega)
theorem tE_5 (h : fF s0 kids up sz [root] N) (hN : N ≤ 2700) {n : Nat} (hr : rch kids root n) (hK : za s0 25 n = 5) : tri s0 kids up sz root N Qc 1 3 n tt tt := by
  have hn := h.lt hr
  have hzs : sz n = 1 + szs sz (kids n) := h.ss n hn
  have hkl : ∀ c ∈ kids n, c < N := fun c hc => (h.kd n hn c hc).1
  have hlen : (kids n).length ≤ szs sz (kids n) := len_sum h hkl
  have hsh := h.sh n hn
  rw [hK] at hsh
  have hcE : ∀ c ∈ kids n, kE (za s0 25 c) := fun c hc => (hsh.ta rfl).2 _ (List.mem_map.mpr ⟨c, hc, rfl⟩)
  refine tri.mk (by omega) h hn hY_tt (fun m s l k1 hl hp _ hq => go_3 (eo_5 (by omega) (by rw [hp.1.st.a 25 n rfl]; exact hK) ⟨(kids n).length + 1, ?_⟩))
  obtain ⟨g, hx, hb⟩ := hp
  have hb4 := hb.2.2.2.1
  have f0 : zSm s (zpa s 31 n (zv s 81)) [31] [] := zSm.rf.pa rfl
  have g0 : GI s0 kids root (zpa s 31 n (zv s 81)) := g.sm f0 rfl rfl rfl rfl
  have o : cP s (zpa s 31 n (zv s 81)) (fun x => x = n) 0 := cP.own f0 (fm.sm f0 rfl) rfl rfl (fun x hx => ⟨rfl, rfl, by rw [za_pa, if_pos rfl, if_neg hx]⟩)
  have L : ∀ (ks : List Nat) (c : Int) (m2 : Nat) (s1 : zS) (x : Nat), ks.length < m2 → fCh s1 c ks → (∀ d ∈ ks, d ∈ kids n) → x + ks.length ≤ szs sz (kids n) → sW s0 kids root (zpa s 31 n (zv s 81)) s1 x → wr_expressionOf_56 (fun s' => kL Qc (m + 4 * sz n - 1 - 1) s') m2 s1 c := by
    intro ks
    induction ks with
    | nil =>
      intro c m2 s1 x hm h1 _ hx2 w
      obtain ⟨m2, rfl⟩ : ∃ q, m2 = q + 1 := ⟨m2 - 1, by have : 0 < m2 := hm; omega⟩
      have h1' : c = -1 := h1
      unfold wr_expressionOf_56
      unfold wr_expressionOf_56B
      refine ⟨fun _ => ?_, fun e => absurd (by omega) e⟩
      have hx3 : x ≤ szs sz (kids n) := hx2
      have p := o.tr (w.cP (D := fun x => x = n) (w := x) (by omega) (by omega)) (D := fun x => x = n) (w := sz n) (fun _ q => q) (fun _ q => q) (by omega)
      exact (hq s1 ((k1.sm f0 rfl rfl).sm w.1 rfl rfl) (PB.leaf h hn (kr_no (Or.inl hK)) p w.2.2.1 (w.1.v 69 rfl) (w.1.v 82 rfl) (w.1.v 49 rfl) (w.1.v 74 rfl) (fun _ => fac_no (by rw [hK]; rfl))) trivial).le (by omega)
    | cons a ks ih =>
      intro c m2 s1 x hm h1 hd hx2 w
      have e4 : (a :: ks).length = ks.length + 1 := rfl
      rw [e4] at hm hx2
      obtain ⟨m2, rfl⟩ : ∃ q, m2 = q + 1 := ⟨m2 - 1, by omega⟩
      have h1' : c = (a : Int) := h1.1
      have ha := hd a (List.mem_cons_self ..)
      have haN := hkl a ha
      subst h1'
      unfold wr_expressionOf_56
      unfold wr_expressionOf_56B
      refine ⟨fun e => absurd e (by omega), fun _ => w.2.2.1.cn h hN (hr.kid ha) (hcE a ha) (fun s2 f2 m2' _ g2 => ?_)⟩
      have w4 := w.2.2.2
      have e81 : zv (zpa s 31 n (zv s 81)) 81 = zv s 81 := rfl
      have e2 : zv s2 81 = zv s1 81 := f2.v 81 rfl
      have := g2.iw (by omega) (zv s2 59) (Q := fun s5 => (0 ≤ (a : Int)) ∧ ((a : Int) < 26000) ∧ wr_expressionOf_56 (fun s' => kL Qc (m + 4 * sz n - 1 - 1) s') m2 s5 (za s5 28 a)) (fun s5 f5 g5 e5 => ⟨by omega, by omega, ih _ m2 s5 (x + 1) (by omega) ?_ (fun d hd2 => hd d (List.mem_cons_of_mem _ hd2)) (by omega) ⟨(w.1.tr f2 rfl rfl).tr f5 rfl rfl, (w.2.1.tr m2').tr (fm.sm f5 rfl), g5, by omega⟩⟩)
      · refine ffm_init_ this ?_
        rintro s4 - ⟨r1, r2⟩
        rw [Int.toNat_natCast]
        exact ⟨r1, r2⟩
      · rw [f5.a 28 a rfl, f2.a 28 a rfl]
        exact h1.2.fr (fun x _ => by rw [f5.a 28 x rfl, f2.a 28 x rfl])
  refine L (kids n) _ _ _ 0 (by omega) ?_ (fun d hd => hd) (by omega) ⟨zSm.rf, fm.rf, g0, by show zv s 81 = zv s 81 + 0; omega⟩
  rw [g.st.a 27 n rfl]
  exact (h.ch n hn).fr (fun x _ => g.st.a 28 x rfl)

end SU
