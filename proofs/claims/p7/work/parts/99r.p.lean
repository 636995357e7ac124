/-! THE REFERENCE'S FOREST -/
def kE (k : Int) : Prop := 1 ≤ k ∧ k ≤ 12
def kC (k : Int) : Prop := 20 ≤ k ∧ k ≤ 40
def kD (k : Int) : Prop := 50 ≤ k ∧ k ≤ 53
def kI (k : Int) : Prop := kE k ∨ k = 59
/-- what a node of a kind has below it -/
def fSh (k : Int) (l : List Int) : Prop :=
  ((k = 1 ∨ k = 2 ∨ k = 3 ∨ k = 29 ∨ k = 30 ∨ k = 31 ∨ k = 32 ∨ k = 34 ∨ k = 35 ∨ k = 37 ∨ k = 42 ∨ k = 44 ∨ k = 57 ∨ k = 58) → l = []) ∧
  (k = 4 → ∃ a, l = [a] ∧ kC a) ∧
  (k = 5 → ¬ l = [] ∧ ∀ c ∈ l, kE c) ∧
  (k = 6 → ¬ l = [] ∧ ∀ c ∈ l, kE c) ∧
  ((k = 7 ∨ k = 8 ∨ k = 10 ∨ k = 33 ∨ k = 43 ∨ k = 56 ∨ k = 59) → ∃ a, l = [a] ∧ kE a) ∧
  (k = 9 → ∃ a b, l = [a, b] ∧ kE a ∧ kE b) ∧
  (k = 11 → ∃ a b r, l = a :: b :: r ∧ ∀ c ∈ l, kE c) ∧
  (k = 12 → ∃ a b c, l = [a, b, c] ∧ kE a ∧ kE b ∧ kE c) ∧
  (k = 20 → ∃ m : Nat, 1 ≤ m ∧ l.length = m + m ∧ ∀ c ∈ l, kE c) ∧
  (k = 21 → l = [6]) ∧
  ((k = 22 ∨ k = 23 ∨ k = 25 ∨ k = 26) → ∃ a b, l = [a, b] ∧ kE a ∧ kC b) ∧
  (k = 24 → ∃ a b c, l = [a, b, c] ∧ kE a ∧ kC b ∧ kC c) ∧
  (k = 27 → ∃ a b r c, l = 58 :: a :: b :: (r ++ [c]) ∧ kE a ∧ kE b ∧ kC c ∧ (r = [] ∨ ∃ e, r = [e] ∧ kE e)) ∧
  (k = 28 → ∃ e r, l = e :: r ∧ kE e ∧ ¬ r = [] ∧ ∀ c ∈ r, c = 41) ∧
  (k = 36 → ∀ c ∈ l, c = 41 ∨ kD c) ∧
  (k = 38 → ∃ a, l = [a] ∧ kC a) ∧
  ((k = 39 ∨ k = 40) → ∃ a b, l = [a, b] ∧ kC a ∧ kE b) ∧
  (k = 41 → ∃ r c, l = r ++ [c] ∧ kC c ∧ ∀ x ∈ r, x = 42 ∨ x = 43 ∨ x = 44) ∧
  ((k = 50 ∨ k = 51 ∨ k = 52) → ∀ c ∈ l, c = 56) ∧
  (k = 53 → l = [55] ∨ ¬ l = [] ∧ ∀ c ∈ l, c = 54) ∧
  (k = 54 → ∃ r c, l = r ++ [c] ∧ (kE c ∨ kC c) ∧ r.length ≤ 20 ∧ ∀ x ∈ r, x = 57) ∧
  (k = 55 → ∃ (m : Nat) (r : List Int), l = List.replicate m 58 ++ r ∧ 1 ≤ m ∧ r.length = m ∧ ∀ x ∈ r, kI x) ∧
  (k = 60 → ¬ l = [] ∧ ∀ c ∈ l, kD c)
theorem fSh.lf {k : Int} {l : List Int} (h : fSh k l) : (k = 1 ∨ k = 2 ∨ k = 3 ∨ k = 29 ∨ k = 30 ∨ k = 31 ∨ k = 32 ∨ k = 34 ∨ k = 35 ∨ k = 37 ∨ k = 42 ∨ k = 44 ∨ k = 57 ∨ k = 58) → l = [] := h.1
theorem fSh.va {k : Int} {l : List Int} (h : fSh k l) : k = 4 → ∃ a, l = [a] ∧ kC a := h.2.1
theorem fSh.ta {k : Int} {l : List Int} (h : fSh k l) : k = 5 → ¬ l = [] ∧ ∀ c ∈ l, kE c := h.2.2.1
theorem fSh.ca {k : Int} {l : List Int} (h : fSh k l) : k = 6 → ¬ l = [] ∧ ∀ c ∈ l, kE c := h.2.2.2.1
theorem fSh.e1 {k : Int} {l : List Int} (h : fSh k l) : (k = 7 ∨ k = 8 ∨ k = 10 ∨ k = 33 ∨ k = 43 ∨ k = 56 ∨ k = 59) → ∃ a, l = [a] ∧ kE a := h.2.2.2.2.1
theorem fSh.bi {k : Int} {l : List Int} (h : fSh k l) : k = 9 → ∃ a b, l = [a, b] ∧ kE a ∧ kE b := h.2.2.2.2.2.1
theorem fSh.re {k : Int} {l : List Int} (h : fSh k l) : k = 11 → ∃ a b r, l = a :: b :: r ∧ ∀ c ∈ l, kE c := h.2.2.2.2.2.2.1
theorem fSh.co {k : Int} {l : List Int} (h : fSh k l) : k = 12 → ∃ a b c, l = [a, b, c] ∧ kE a ∧ kE b ∧ kE c := h.2.2.2.2.2.2.2.1
theorem fSh.as {k : Int} {l : List Int} (h : fSh k l) : k = 20 → ∃ m : Nat, 1 ≤ m ∧ l.length = m + m ∧ ∀ c ∈ l, kE c := h.2.2.2.2.2.2.2.2.1
theorem fSh.cc {k : Int} {l : List Int} (h : fSh k l) : k = 21 → l = [6] := h.2.2.2.2.2.2.2.2.2.1
theorem fSh.ec {k : Int} {l : List Int} (h : fSh k l) : (k = 22 ∨ k = 23 ∨ k = 25 ∨ k = 26) → ∃ a b, l = [a, b] ∧ kE a ∧ kC b := h.2.2.2.2.2.2.2.2.2.2.1
theorem fSh.te {k : Int} {l : List Int} (h : fSh k l) : k = 24 → ∃ a b c, l = [a, b, c] ∧ kE a ∧ kC b ∧ kC c := h.2.2.2.2.2.2.2.2.2.2.2.1
theorem fSh.fo {k : Int} {l : List Int} (h : fSh k l) : k = 27 → ∃ a b r c, l = 58 :: a :: b :: (r ++ [c]) ∧ kE a ∧ kE b ∧ kC c ∧ (r = [] ∨ ∃ e, r = [e] ∧ kE e) := h.2.2.2.2.2.2.2.2.2.2.2.2.1
theorem fSh.sw {k : Int} {l : List Int} (h : fSh k l) : k = 28 → ∃ e r, l = e :: r ∧ kE e ∧ ¬ r = [] ∧ ∀ c ∈ r, c = 41 := h.2.2.2.2.2.2.2.2.2.2.2.2.2.1
theorem fSh.bl {k : Int} {l : List Int} (h : fSh k l) : k = 36 → ∀ c ∈ l, c = 41 ∨ kD c := h.2.2.2.2.2.2.2.2.2.2.2.2.2.2.1
theorem fSh.rp {k : Int} {l : List Int} (h : fSh k l) : k = 38 → ∃ a, l = [a] ∧ kC a := h.2.2.2.2.2.2.2.2.2.2.2.2.2.2.2.1
theorem fSh.ce {k : Int} {l : List Int} (h : fSh k l) : (k = 39 ∨ k = 40) → ∃ a b, l = [a, b] ∧ kC a ∧ kE b := h.2.2.2.2.2.2.2.2.2.2.2.2.2.2.2.2.1
theorem fSh.pa {k : Int} {l : List Int} (h : fSh k l) : k = 41 → ∃ r c, l = r ++ [c] ∧ kC c ∧ ∀ x ∈ r, x = 42 ∨ x = 43 ∨ x = 44 := h.2.2.2.2.2.2.2.2.2.2.2.2.2.2.2.2.2.1
theorem fSh.de {k : Int} {l : List Int} (h : fSh k l) : (k = 50 ∨ k = 51 ∨ k = 52) → ∀ c ∈ l, c = 56 := h.2.2.2.2.2.2.2.2.2.2.2.2.2.2.2.2.2.2.1
theorem fSh.le {k : Int} {l : List Int} (h : fSh k l) : k = 53 → l = [55] ∨ ¬ l = [] ∧ ∀ c ∈ l, c = 54 := h.2.2.2.2.2.2.2.2.2.2.2.2.2.2.2.2.2.2.2.1
theorem fSh.ro {k : Int} {l : List Int} (h : fSh k l) : k = 54 → ∃ r c, l = r ++ [c] ∧ (kE c ∨ kC c) ∧ r.length ≤ 20 ∧ ∀ x ∈ r, x = 57 := h.2.2.2.2.2.2.2.2.2.2.2.2.2.2.2.2.2.2.2.2.1
theorem fSh.vs {k : Int} {l : List Int} (h : fSh k l) : k = 55 → ∃ (m : Nat) (r : List Int), l = List.replicate m 58 ++ r ∧ 1 ≤ m ∧ r.length = m ∧ ∀ x ∈ r, kI x := h.2.2.2.2.2.2.2.2.2.2.2.2.2.2.2.2.2.2.2.2.2.1
theorem fSh.tx {k : Int} {l : List Int} (h : fSh k l) : k = 60 → ¬ l = [] ∧ ∀ c ∈ l, kD c := h.2.2.2.2.2.2.2.2.2.2.2.2.2.2.2.2.2.2.2.2.2.2
/-- from c on the nodes l stand one behind another -/
def fCh (s : zS) : Int → List Nat → Prop
  | c, [] => c = -1
  | c, k :: l => c = (k : Int) ∧ fCh s (za s 28 k) l
theorem fCh.fr {s s' : zS} : ∀ {l : List Nat} {c : Int}, fCh s c l → (∀ x ∈ l, za s' 28 x = za s 28 x) → fCh s' c l
  | [], c, h, _ => h
  | k :: l, c, h, e => ⟨h.1, by
    rw [e k (List.mem_cons_self ..)]
    exact fCh.fr h.2 (fun x hx => e x (List.mem_cons_of_mem _ hx))⟩
theorem fCh_of {s s' : zS} : ∀ (A : List Nat) (b : Nat), (∀ i (h : i < A.length), za s 36 (b + i) = (A[i] : Nat)) → (∀ i, b ≤ i → i + 1 < b + A.length → za s' 28 (za s 36 i).toNat = za s 36 (i + 1)) → (∀ x, A.getLast? = some x → za s' 28 x = -1) → fCh s' (if b < b + A.length then za s 36 b else -1) A
  | [], b, _, _, _ => by
    show (if b < b + 0 then _ else _) = (-1 : Int)
    rw [if_neg (by omega)]
  | a :: A, b, h1, h2, h3 => by
    have e0 := h1 0 (by show 0 < A.length + 1; omega)
    have e0' : za s 36 b = (a : Int) := e0
    refine ⟨?_, ?_⟩
    · rw [if_pos (by show b < b + (A.length + 1); omega)]
      exact e0'
    · have ih := fCh_of (s := s) (s' := s') A (b + 1) (fun i h => ?_) (fun i g1 g2 => h2 i (by omega) (by show i + 1 < b + (A.length + 1); omega)) (fun x hx => ?_)
      · have e : za s' 28 a = if b + 1 < b + 1 + A.length then za s 36 (b + 1) else -1 := by
          split
          · have := h2 b (Nat.le_refl b) (by show b + 1 < b + (A.length + 1); omega)
            rw [e0'] at this
            exact this
          · have hA : A = [] := List.eq_nil_of_length_eq_zero (by omega)
            subst hA
            exact h3 a rfl
        rw [e]
        exact ih
      · have := h1 (i + 1) (by show i + 1 < A.length + 1; omega)
        rw [show b + 1 + i = b + (i + 1) by omega]
        exact this
      · refine h3 x ?_
        cases A with
        | nil => cases hx
        | cons a2 A2 => rw [List.getLast?_cons_cons]; exact hx
/-- how the nodes stand: kids, whose kid, how many below; W waits -/
def fF (s : zS) (kids : Nat → List Nat) (up sz : Nat → Nat) (W : List Nat) (N : Nat) : Prop :=
  (zv s 24 = N) ∧
  (zv s 37 = W.length) ∧
  (∀ i (h : i < W.length), za s 36 i = (W[i] : Nat)) ∧
  (∀ n, n < N → fCh s (za s 27 n) (kids n)) ∧
  (∀ n, n < N → ∀ c ∈ kids n, c < N ∧ up c = n ∧ ¬ c ∈ W) ∧
  (∀ n, n < N → (kids n).Nodup) ∧
  (∀ n, n < N → fSh (za s 25 n) ((kids n).map fun c => za s 25 c)) ∧
  (∀ n, n < N → sz n = 1 + ((kids n).map sz).sum) ∧
  (∀ w ∈ W, w < N ∧ za s 28 w = -1) ∧
  (W.Nodup) ∧
  ((W.map sz).sum = N) ∧
  (∀ n, n < N → 0 ≤ za s 26 n ∧ za s 26 n ≤ 12000 ∧ 0 ≤ za s 34 n ∧ za s 34 n ≤ 12000 ∧ 0 ≤ za s 25 n ∧ za s 25 n ≤ 60) ∧
  (∀ n, n < N → za s 25 n = 3 → 0 ≤ za s 29 n ∧ za s 29 n < zv s 18)
theorem fF.nN {s : zS} {kids : Nat → List Nat} {up sz : Nat → Nat} {W : List Nat} {N : Nat} (h : fF s kids up sz W N) : zv s 24 = N := h.1
theorem fF.nL {s : zS} {kids : Nat → List Nat} {up sz : Nat → Nat} {W : List Nat} {N : Nat} (h : fF s kids up sz W N) : zv s 37 = W.length := h.2.1
theorem fF.ou {s : zS} {kids : Nat → List Nat} {up sz : Nat → Nat} {W : List Nat} {N : Nat} (h : fF s kids up sz W N) : ∀ i (h : i < W.length), za s 36 i = (W[i] : Nat) := h.2.2.1
theorem fF.ch {s : zS} {kids : Nat → List Nat} {up sz : Nat → Nat} {W : List Nat} {N : Nat} (h : fF s kids up sz W N) : ∀ n, n < N → fCh s (za s 27 n) (kids n) := h.2.2.2.1
theorem fF.kd {s : zS} {kids : Nat → List Nat} {up sz : Nat → Nat} {W : List Nat} {N : Nat} (h : fF s kids up sz W N) : ∀ n, n < N → ∀ c ∈ kids n, c < N ∧ up c = n ∧ ¬ c ∈ W := h.2.2.2.2.1
theorem fF.kn {s : zS} {kids : Nat → List Nat} {up sz : Nat → Nat} {W : List Nat} {N : Nat} (h : fF s kids up sz W N) : ∀ n, n < N → (kids n).Nodup := h.2.2.2.2.2.1
theorem fF.sh {s : zS} {kids : Nat → List Nat} {up sz : Nat → Nat} {W : List Nat} {N : Nat} (h : fF s kids up sz W N) : ∀ n, n < N → fSh (za s 25 n) ((kids n).map fun c => za s 25 c) := h.2.2.2.2.2.2.1
theorem fF.ss {s : zS} {kids : Nat → List Nat} {up sz : Nat → Nat} {W : List Nat} {N : Nat} (h : fF s kids up sz W N) : ∀ n, n < N → sz n = 1 + ((kids n).map sz).sum := h.2.2.2.2.2.2.2.1
theorem fF.wt {s : zS} {kids : Nat → List Nat} {up sz : Nat → Nat} {W : List Nat} {N : Nat} (h : fF s kids up sz W N) : ∀ w ∈ W, w < N ∧ za s 28 w = -1 := h.2.2.2.2.2.2.2.2.1
theorem fF.wn {s : zS} {kids : Nat → List Nat} {up sz : Nat → Nat} {W : List Nat} {N : Nat} (h : fF s kids up sz W N) : W.Nodup := h.2.2.2.2.2.2.2.2.2.1
theorem fF.ws {s : zS} {kids : Nat → List Nat} {up sz : Nat → Nat} {W : List Nat} {N : Nat} (h : fF s kids up sz W N) : (W.map sz).sum = N := h.2.2.2.2.2.2.2.2.2.2.1
theorem fF.tk {s : zS} {kids : Nat → List Nat} {up sz : Nat → Nat} {W : List Nat} {N : Nat} (h : fF s kids up sz W N) : ∀ n, n < N → 0 ≤ za s 26 n ∧ za s 26 n ≤ 12000 ∧ 0 ≤ za s 34 n ∧ za s 34 n ≤ 12000 ∧ 0 ≤ za s 25 n ∧ za s 25 n ≤ 60 := h.2.2.2.2.2.2.2.2.2.2.2.1
theorem fF.st {s : zS} {kids : Nat → List Nat} {up sz : Nat → Nat} {W : List Nat} {N : Nat} (h : fF s kids up sz W N) : ∀ n, n < N → za s 25 n = 3 → 0 ≤ za s 29 n ∧ za s 29 n < zv s 18 := h.2.2.2.2.2.2.2.2.2.2.2.2
theorem fF.out {s : zS} {kids : Nat → List Nat} {up sz : Nat → Nat} {W : List Nat} {N : Nat} (h : fF s kids up sz W N) {i : Nat} (hi : i < W.length) : 0 ≤ za s 36 i ∧ za s 36 i < N := by
  rw [h.ou i hi]
  have := (h.wt _ (List.getElem_mem hi)).1
  exact ⟨by omega, by omega⟩
theorem fF.inj {s : zS} {kids : Nat → List Nat} {up sz : Nat → Nat} {W : List Nat} {N : Nat} (h : fF s kids up sz W N) {i j : Nat} (hi : i < j) (hj : j < W.length) : ¬ za s 36 i = za s 36 j := by
  rw [h.ou i (by omega), h.ou j hj]
  intro e
  have e2 : W[i] = W[j] := by omega
  exact List.pairwise_iff_getElem.mp h.wn i j (by omega) hj hi e2
theorem fF.wl {s : zS} {kids : Nat → List Nat} {up sz : Nat → Nat} {W : List Nat} {N : Nat} (h : fF s kids up sz W N) : W.length ≤ N := by
  have : ∀ l : List Nat, (∀ w ∈ l, w < N) → l.length ≤ (l.map sz).sum := by
    intro l
    induction l with
    | nil => intro _; exact Nat.le_refl 0
    | cons a l ih =>
      intro hl
      have h1 := ih (fun w hw => hl w (List.mem_cons_of_mem _ hw))
      have h2 := h.ss a (hl a (List.mem_cons_self ..))
      show l.length + 1 ≤ sz a + (l.map sz).sum
      omega
  have h3 := this W (fun w hw => (h.wt w hw).1)
  rw [h.ws] at h3
  exact h3
/-- what waits from b on becomes a node -/
theorem fF.shut {s s' : zS} {kids : Nat → List Nat} {up sz : Nat → Nat} {B A : List Nat} {N : Nat} {k tok a : Int} (h : fF s kids up sz (B ++ A) N) (g : nSh s s' k tok a B.length) (hk : fSh k (A.map fun c => za s 25 c)) (hk0 : 0 ≤ k) (hk6 : k ≤ 60) (ht : 0 ≤ tok) (ht2 : tok ≤ 12000) (h3 : k = 3 → 0 ≤ a ∧ a < zv s 18) : ∃ kids' up' sz', fF s' kids' up' sz' (B ++ [N]) (N + 1) ∧ (∀ n, n < N → kids' n = kids n ∧ za s' 25 n = za s 25 n ∧ za s' 29 n = za s 29 n ∧ za s' 32 n = za s 32 n) ∧ kids' N = A ∧ za s' 25 N = k ∧ za s' 29 N = a := by
  obtain ⟨n, L, g1, g2, g3, g4, g5, g6, g7, ⟨q1, q2, q3, q4, q5, q6, q7⟩, g9, g10, g11⟩ := g
  have en : n = N := by have := h.nN; omega
  subst en
  have eL : L = B.length + A.length := by
    have := h.nL
    rw [List.length_append] at this
    omega
  have hmem : ∀ c, c ∈ A → c ∈ B ++ A := fun c hc => List.mem_append.mpr (Or.inr hc)
  have hlt : ∀ c, c ∈ B ++ A → c < n := fun c hc => (h.wt c hc).1
  have k25 : ∀ m, m < n → za s' 25 m = za s 25 m := fun m hm => g9 25 m (by decide) (by decide) (by omega)
  have nx : ∀ m, m < n → ¬ m ∈ B ++ A → za s' 28 m = za s 28 m := fun m hm hw => g11 m (by omega) (fun i a1 a2 e => hw (by
    rw [h.ou i (by rw [List.length_append]; omega)] at e
    have e2 : m = (B ++ A)[i]'(by rw [List.length_append]; omega) := by omega
    rw [e2]
    exact List.getElem_mem _))
  have hA : ∀ i (hi : i < A.length), za s 36 (B.length + i) = (A[i] : Nat) := fun i hi => by
    rw [h.ou (B.length + i) (by rw [List.length_append]; omega), List.getElem_append_right (by omega)]
    congr 2
    omega
  have hwn := h.wn
  rw [List.nodup_append] at hwn
  refine ⟨fun m => if m = n then A else kids m, fun c => if c ∈ A then n else up c, fun m => if m = n then 1 + (A.map sz).sum else sz m, ⟨by omega, ?_, fun i hi => ?_, fun m hm => ?_, fun m hm c hc => ?_, fun m hm => ?_, fun m hm => ?_, fun m hm => ?_, fun w hw => ?_, ?_, ?_, fun m hm => ?_, fun m hm e => ?_⟩, fun m hm => ⟨if_neg (by omega), k25 m hm, g9 29 m (by decide) (by decide) (by omega), g9 32 m (by decide) (by decide) (by omega)⟩, if_pos rfl, q1, q3⟩
  · rw [List.length_append, g4]
    rfl
  · rw [List.length_append] at hi
    have hi' : i < B.length + 1 := hi
    by_cases e : i = B.length
    · subst e
      rw [List.getElem_append_right (Nat.le_refl _), g7]
      simp
    · rw [g6 i (by omega), h.ou i (by rw [List.length_append]; omega), List.getElem_append_left (by omega), List.getElem_append_left (by omega)]
  · try dsimp only
    try (dsimp only at hc)
    by_cases e : m = n
    · subst e
      rw [if_pos rfl, q7, eL]
      refine fCh_of A B.length hA (fun i a1 a2 => g10 i a1 (by omega)) (fun x hx => ?_)
      have hxA := List.mem_of_getLast? hx
      rw [g11 x (by have := hlt x (hmem x hxA); omega) (fun i a1 a2 e2 => ?_)]
      · exact (h.wt x (hmem x hxA)).2
      · obtain ⟨j, hj, ej⟩ : ∃ j, ∃ hj : j < A.length, j + 1 = A.length ∧ A[j] = x := by
          rw [List.getLast?_eq_getElem?] at hx
          obtain ⟨hl, hx2⟩ := List.getElem?_eq_some_iff.mp hx
          exact ⟨A.length - 1, hl, by omega, hx2⟩
        have e3 := hA j hj
        rw [ej.2, e2] at e3
        exact h.inj (i := i) (j := B.length + j) (by omega) (by rw [List.length_append]; omega) e3.symm
    · rw [if_neg e, g9 27 m (by decide) (by decide) e]
      exact (h.ch m (by omega)).fr (fun x hx => nx x (h.kd m (by omega) x hx).1 (h.kd m (by omega) x hx).2.2)
  · try dsimp only
    try (dsimp only at hc)
    by_cases e : m = n
    · subst e
      rw [if_pos rfl] at hc
      have h5 := hlt c (hmem c hc)
      refine ⟨by omega, if_pos hc, fun hw => ?_⟩
      rcases List.mem_append.mp hw with hw | hw
      · exact hwn.2.2 c hw c hc rfl
      · rw [List.mem_singleton] at hw
        omega
    · rw [if_neg e] at hc
      obtain ⟨k1, k2, k3⟩ := h.kd m (by omega) c hc
      refine ⟨by omega, ?_, fun hw => ?_⟩
      · rw [if_neg (fun q => k3 (hmem c q))]
        exact k2
      · rcases List.mem_append.mp hw with hw | hw
        · exact k3 (List.mem_append.mpr (Or.inl hw))
        · rw [List.mem_singleton] at hw
          omega
  · try dsimp only
    try (dsimp only at hc)
    by_cases e : m = n
    · rw [if_pos e]; exact hwn.2.1
    · rw [if_neg e]; exact h.kn m (by omega)
  · try dsimp only
    try (dsimp only at hc)
    by_cases e : m = n
    · subst e
      rw [if_pos rfl, q1, List.map_congr_left (g := fun c => za s 25 c) (fun c hc => k25 c (hlt c (hmem c hc)))]
      exact hk
    · rw [if_neg e, k25 m (by omega), List.map_congr_left (g := fun c => za s 25 c) (fun c hc => k25 c (h.kd m (by omega) c hc).1)]
      exact h.sh m (by omega)
  · try dsimp only
    try (dsimp only at hc)
    by_cases e : m = n
    · subst e
      rw [if_pos rfl, if_pos rfl, List.map_congr_left (g := sz) (fun c hc => if_neg (by have := hlt c (hmem c hc); omega))]
    · rw [if_neg e, if_neg e, List.map_congr_left (g := sz) (fun c hc => if_neg (by have := (h.kd m (by omega) c hc).1; omega))]
      exact h.ss m (by omega)
  · rcases List.mem_append.mp hw with hw | hw
    · have hw2 : w ∈ B ++ A := List.mem_append.mpr (Or.inl hw)
      have h5 := hlt w hw2
      refine ⟨by omega, ?_⟩
      rw [g11 w (by omega) (fun i a1 a2 e => ?_)]
      · exact (h.wt w hw2).2
      · have e3 := hA (i - B.length) (by omega)
        rw [show B.length + (i - B.length) = i by omega] at e3
        have e4 : w = A[i - B.length]'(by omega) := by omega
        exact hwn.2.2 w hw _ (List.getElem_mem _) e4
    · rw [List.mem_singleton] at hw
      subst hw
      exact ⟨by omega, q4⟩
  · rw [List.nodup_append]
    refine ⟨hwn.1, List.nodup_cons.mpr ⟨List.not_mem_nil, List.nodup_nil⟩, fun x hx y hy e => ?_⟩
    rw [List.mem_singleton] at hy
    have := hlt x (List.mem_append.mpr (Or.inl hx))
    omega
  · have hw := h.ws
    rw [List.map_append, List.sum_append] at hw ⊢
    rw [List.map_congr_left (f := fun m => if m = n then 1 + (A.map sz).sum else sz m) (g := sz) (fun c hc => if_neg (by have := hlt c (List.mem_append.mpr (Or.inl hc)); omega))]
    simp only [List.map_cons, List.map_nil, List.sum_cons, List.sum_nil, if_pos]
    omega
  · try dsimp only
    try (dsimp only at hc)
    by_cases e : m = n
    · subst e
      rw [q1, q2]
      exact ⟨ht, ht2, q5, q6, hk0, hk6⟩
    · rw [k25 m (by omega), g9 26 m (by decide) (by decide) e, g9 34 m (by decide) (by decide) e]
      exact h.tk m (by omega)
  · rw [g5 18 (by decide) (by decide)]
    by_cases e2 : m = n
    · subst e2
      rw [q1] at e
      rw [q3]
      exact h3 e
    · rw [k25 m (by omega)] at e
      rw [g9 29 m (by decide) (by decide) e2]
      exact h.st m (by omega) e
