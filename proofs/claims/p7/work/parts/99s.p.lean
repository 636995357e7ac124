/-! THE REFERENCE'S FOREST, on -/
/-- a change of what the forest doesn't say -/
theorem fF.fr {s s' : zS} {kids : Nat → List Nat} {up sz : Nat → Nat} {W : List Nat} {N : Nat} (h : fF s kids up sz W N) (h24 : zv s' 24 = zv s 24) (h37 : zv s' 37 = zv s 37) (h18 : zv s' 18 = zv s 18) (ha : ∀ j, (j = 25 ∨ j = 26 ∨ j = 27 ∨ j = 28 ∨ j = 36) → ∀ i, za s' j i = za s j i) (h34 : ∀ n, n < N → 0 ≤ za s' 34 n ∧ za s' 34 n ≤ 12000) (h29 : ∀ n, n < N → za s 25 n = 3 → za s' 29 n = za s 29 n) : fF s' kids up sz W N := by
  have e25 := ha 25 (by decide)
  have e26 := ha 26 (by decide)
  have e27 := ha 27 (by decide)
  have e28 := ha 28 (by decide)
  have e36 := ha 36 (by decide)
  refine ⟨by rw [h24]; exact h.nN, by rw [h37]; exact h.nL, fun i hi => by rw [e36]; exact h.ou i hi, fun n hn => by rw [e27]; exact (h.ch n hn).fr (fun x _ => e28 x), h.kd, h.kn, fun n hn => ?_, h.ss, fun w hw => ⟨(h.wt w hw).1, by rw [e28]; exact (h.wt w hw).2⟩, h.wn, h.ws, fun n hn => ?_, fun n hn e => ?_⟩
  · rw [e25, List.map_congr_left (g := fun c => za s 25 c) (fun c _ => e25 c)]
    exact h.sh n hn
  · obtain ⟨t1, t2, t3, t4, t5⟩ := h.tk n hn
    rw [e25, e26]
    exact ⟨t1, t2, (h34 n hn).1, (h34 n hn).2, t5⟩
  · rw [e25] at e
    rw [h29 n hn e, h18]
    exact h.st n hn e
/-- fields outside the forest -/
theorem fF.sm {s s' : zS} {kids : Nat → List Nat} {up sz : Nat → Nat} {W : List Nat} {N : Nat} {js ks : List Nat} (h : fF s kids up sz W N) (f : zSm s s' js ks) (hj : ([25, 26, 27, 28, 29, 34, 36].all fun j => !js.contains j) = true) (hk : ([18, 24, 37].all fun k => !ks.contains k) = true) : fF s' kids up sz W N := by
  have J : ∀ j, [25, 26, 27, 28, 29, 34, 36].contains j = true → ∀ i, za s' j i = za s j i := fun j h1 i => f.a j i (by
    have := List.all_eq_true.mp hj j (by simpa using h1)
    simpa using this)
  have K : ∀ k, [18, 24, 37].contains k = true → zv s' k = zv s k := fun k h1 => f.v k (by
    have := List.all_eq_true.mp hk k (by simpa using h1)
    simpa using this)
  refine h.fr (K 24 rfl) (K 37 rfl) (K 18 rfl) (fun j hj2 i => ?_) (fun n hn => ?_) (fun n hn _ => J 29 rfl n)
  · rcases hj2 with rfl | rfl | rfl | rfl | rfl <;> exact J _ rfl i
  · rw [J 34 rfl]
    obtain ⟨-, -, t3, t4, -⟩ := h.tk n hn
    exact ⟨t3, t4⟩
/-- the last one of c and l -/
def lst : List Nat → Nat → Nat
  | [], c => c
  | a :: l, _ => lst l a
theorem lst_mem : ∀ (l : List Nat) (c : Nat), lst l c ∈ c :: l
  | [], c => List.mem_cons_self ..
  | a :: l, c => List.mem_cons_of_mem _ (lst_mem l a)
theorem fCh.snoc {s s' : zS} (r : Nat) (hr : za s' 28 r = -1) : ∀ (l : List Nat) (c : Nat), fCh s (za s 28 c) l → za s' 28 (lst l c) = r → (∀ x ∈ c :: l, ¬ x = lst l c → za s' 28 x = za s 28 x) → (c :: l).Nodup → fCh s' (za s' 28 c) (l ++ [r])
  | [], c, _, h2, _, _ => ⟨h2, hr⟩
  | a :: l, c, h1, h2, h3, h4 => by
    rw [List.nodup_cons] at h4
    have e : ¬ c = lst (a :: l) c := fun e => h4.1 (by
      have := lst_mem l a
      rw [show lst (a :: l) c = lst l a from rfl] at e
      rw [e]
      exact this)
    rw [h3 c (List.mem_cons_self ..) e]
    refine ⟨h1.1, ?_⟩
    exact fCh.snoc r hr l a h1.2 h2 (fun x hx hne => h3 x (List.mem_cons_of_mem _ hx) hne) h4.2
theorem sp_rel_L (s : zS) (b r : Nat) (hb : b < 26000) {Q : zS → Prop} : ∀ (l : List Nat) (c m : Nat), fCh s (za s 28 c) l → (∀ x ∈ c :: l, x < 26000) → l.length < m → Q (zpv (zpa s 28 (lst l c) r) 37 (b + 1)) → wr_binary_70 Q m s b r c
  | [], c, 0, _, _, h, _ => by cases h
  | [], c, m + 1, h1, h2, _, hq => by
    have hc := h2 c (List.mem_cons_self ..)
    have h1' : za s 28 c = -1 := h1
    unfold wr_binary_70
    unfold wr_binary_70B
    simp only [Int.toNat_natCast]
    exact ⟨by omega, by omega, fun _ => ⟨by omega, by omega, ⟨by omega, by omega⟩, hq⟩, fun g => absurd (by omega) g⟩
  | a :: l, c, 0, _, _, h, _ => by cases h
  | a :: l, c, m + 1, h1, h2, h3, hq => by
    have hc := h2 c (List.mem_cons_self ..)
    have e : za s 28 c = (a : Int) := h1.1
    unfold wr_binary_70
    unfold wr_binary_70B
    simp only [Int.toNat_natCast]
    refine ⟨by omega, by omega, fun g => absurd g (by omega), fun _ => ⟨by omega, by omega, ?_⟩⟩
    rw [e]
    exact sp_rel_L s b r hb l a m h1.2 (fun x hx => h2 x (List.mem_cons_of_mem _ hx)) (by have : (a :: l).length = l.length + 1 := rfl; omega) hq
/-- a row of relations takes one more -/
theorem fF.rel {s s' : zS} {kids : Nat → List Nat} {up sz : Nat → Nat} {B : List Nat} {l r N : Nat} {c : Nat} {ls : List Nat} (h : fF s kids up sz (B ++ [l, r]) N) (hl : za s 25 l = 11) (hr : kE (za s 25 r)) (hc : kids l = c :: ls) (h24 : zv s' 24 = zv s 24) (h37 : zv s' 37 = B.length + 1) (h18 : zv s' 18 = zv s 18) (ha : ∀ j, ¬ j = 28 → ¬ j = 33 → ∀ i, za s' j i = za s j i) (h28 : ∀ i, za s' 28 i = if i = lst ls c then (r : Int) else za s 28 i) : ∃ kids' up' sz', fF s' kids' up' sz' (B ++ [l]) N ∧ ∀ n, n < N → ¬ n = l → kids' n = kids n := by
  have hl1 := h.wt l (List.mem_append.mpr (Or.inr (List.mem_cons_self ..)))
  have hr1 := h.wt r (List.mem_append.mpr (Or.inr (List.mem_cons_of_mem _ (List.mem_cons_self ..))))
  have hwn := h.wn
  rw [List.nodup_append] at hwn
  obtain ⟨n1, n2, n3⟩ := hwn
  rw [List.nodup_cons] at n2
  have hlr : ¬ l = r := fun e => n2.1 (by rw [e]; exact List.mem_cons_self ..)
  have e25 := ha 25 (by decide) (by decide)
  have e26 := ha 26 (by decide) (by decide)
  have e27 := ha 27 (by decide) (by decide)
  have e29 := ha 29 (by decide) (by decide)
  have e34 := ha 34 (by decide) (by decide)
  have e36 := ha 36 (by decide) (by decide)
  have hx : lst ls c ∈ kids l := by rw [hc]; exact lst_mem ls c
  obtain ⟨x1, x2, x3⟩ := h.kd l hl1.1 _ hx
  have hrW : r ∈ B ++ [l, r] := List.mem_append.mpr (Or.inr (List.mem_cons_of_mem _ (List.mem_cons_self ..)))
  have hrx : ¬ r = lst ls c := fun e => x3 (by rw [← e]; exact hrW)
  have hsub : ∀ w, w ∈ B ++ [l] → w ∈ B ++ [l, r] := fun w hw => by
    rcases List.mem_append.mp hw with g | g
    · exact List.mem_append.mpr (Or.inl g)
    · rw [List.mem_singleton] at g
      rw [g]
      exact List.mem_append.mpr (Or.inr (List.mem_cons_self ..))
  have hnr : ∀ n, n < N → ¬ r ∈ kids n := fun n hn g => (h.kd n hn r g).2.2 hrW
  have hrB : ¬ r ∈ B ++ [l] := fun g => by
    rcases List.mem_append.mp g with g | g
    · exact n3 r g r (List.mem_cons_of_mem _ (List.mem_cons_self ..)) rfl
    · rw [List.mem_singleton] at g
      exact hlr g.symm
  refine ⟨fun m => if m = l then kids l ++ [r] else kids m, fun x => if x = r then l else up x, fun m => if m = l then sz l + sz r else sz m, ⟨by rw [h24]; exact h.nN, ?_, fun i hi => ?_, fun m hm => ?_, fun m hm x hx => ?_, fun m hm => ?_, fun m hm => ?_, fun m hm => ?_, fun w hw => ?_, ?_, ?_, fun m hm => ?_, fun m hm e => ?_⟩, fun m _ hm => if_neg hm⟩
  · rw [h37, List.length_append]
    rfl
  · rw [List.length_append] at hi
    have hi' : i < B.length + 1 := hi
    rw [e36, h.ou i (by rw [List.length_append]; show i < B.length + 2; omega)]
    by_cases e : i < B.length
    · rw [List.getElem_append_left e, List.getElem_append_left e]
    · have e2 : i = B.length := by omega
      subst e2
      rw [List.getElem_append_right (Nat.le_refl _), List.getElem_append_right (Nat.le_refl _)]
      simp
  · rw [e27]
    try dsimp only
    by_cases e : m = l
    · subst e
      have hch := h.ch m hm
      rw [hc] at hch
      rw [if_pos rfl, hc]
      refine ⟨hch.1, ?_⟩
      have hkn := h.kn m hm
      rw [hc] at hkn
      refine fCh.snoc (s := s) r ?_ ls c hch.2 ?_ (fun x _ hne => ?_) hkn
      · rw [h28, if_neg hrx]; exact hr1.2
      · rw [h28, if_pos rfl]
      · rw [h28, if_neg hne]
    · rw [if_neg e]
      refine (h.ch m hm).fr (fun x hx2 => ?_)
      rw [h28, if_neg ?_]
      intro e2
      have := (h.kd m hm x hx2).2.1
      rw [e2, x2] at this
      exact e this.symm
  · try dsimp only
    try (dsimp only at hx)
    by_cases e : m = l
    · subst e
      rw [if_pos rfl] at hx
      rcases List.mem_append.mp hx with g | g
      · obtain ⟨k1, k2, k3⟩ := h.kd m hm x g
        refine ⟨k1, ?_, fun q => k3 (hsub x q)⟩
        rw [if_neg (fun e => k3 (by rw [e]; exact hrW))]
        exact k2
      · rw [List.mem_singleton] at g
        subst g
        exact ⟨hr1.1, if_pos rfl, hrB⟩
    · rw [if_neg e] at hx
      obtain ⟨k1, k2, k3⟩ := h.kd m hm x hx
      refine ⟨k1, ?_, fun q => k3 (hsub x q)⟩
      rw [if_neg (fun e => k3 (by rw [e]; exact hrW))]
      exact k2
  · try dsimp only
    try (dsimp only at hx)
    by_cases e : m = l
    · subst e
      rw [if_pos rfl, List.nodup_append]
      refine ⟨h.kn m hm, List.nodup_cons.mpr ⟨List.not_mem_nil, List.nodup_nil⟩, fun x hx y hy e => ?_⟩
      rw [List.mem_singleton] at hy
      rw [e, hy] at hx
      exact hnr m hm hx
    · rw [if_neg e]; exact h.kn m hm
  · have hmap : ∀ L : List Nat, (L.map fun c => za s' 25 c) = L.map fun c => za s 25 c := fun L => List.map_congr_left (fun c _ => e25 c)
    try dsimp only
    rw [e25, hmap]
    by_cases e : m = l
    · subst e
      rw [if_pos rfl, List.map_append]
      have hs := h.sh m hm
      rw [hl] at hs ⊢
      obtain ⟨a, b, q, e1, e2⟩ := hs.re rfl
      have q4 : ∀ (k : Int), k = 11 → ∀ z : Int, z = 11 → k = z := fun k e z e2 => e.trans e2.symm
      rw [e1] at e2 ⊢
      refine ⟨fun hk => ?_, fun hk => ?_, fun hk => ?_, fun hk => ?_, fun hk => ?_, fun hk => ?_, fun hk => ?_, fun hk => ?_, fun hk => ?_, fun hk => ?_, fun hk => ?_, fun hk => ?_, fun hk => ?_, fun hk => ?_, fun hk => ?_, fun hk => ?_, fun hk => ?_, fun hk => ?_, fun hk => ?_, fun hk => ?_, fun hk => ?_, fun hk => ?_, fun hk => ?_⟩
      all_goals first
        | exact absurd hk (by decide)
        | exact ⟨a, b, q ++ [za s 25 r], rfl, fun c hc2 => by
            rcases List.mem_append.mp hc2 with g | g
            · exact e2 c g
            · rw [List.map_cons, List.map_nil, List.mem_singleton] at g
              rw [g]
              exact hr⟩
    · rw [if_neg e]
      exact h.sh m hm
  · have hsum : ∀ L : List Nat, (∀ x ∈ L, ¬ x = l) → L.map (fun m => if m = l then sz l + sz r else sz m) = L.map sz := fun L hL => List.map_congr_left (fun c hc => if_neg (hL c hc))
    have hlk : ∀ m, m < N → ∀ x ∈ kids m, ¬ x = l := fun m hm x hx e => (h.kd m hm x hx).2.2 (by rw [e]; exact List.mem_append.mpr (Or.inr (List.mem_cons_self ..)))
    show (if m = l then sz l + sz r else sz m) = 1 + (List.map (fun m => if m = l then sz l + sz r else sz m) (if m = l then kids l ++ [r] else kids m)).sum
    by_cases e : m = l
    · subst e
      rw [if_pos rfl, if_pos rfl, List.map_append, List.sum_append, hsum _ (hlk m hm)]
      have := h.ss m hm
      simp only [List.map_cons, List.map_nil, List.sum_cons, List.sum_nil, if_neg (fun e => hlr (Eq.symm e))]
      omega
    · rw [if_neg e, if_neg e, hsum _ (hlk m hm)]
      exact h.ss m hm
  · have h5 := h.wt w (hsub w hw)
    refine ⟨h5.1, ?_⟩
    rw [h28, if_neg (fun e => x3 (by rw [← e]; exact hsub w hw))]
    exact h5.2
  · rw [List.nodup_append]
    refine ⟨n1, List.nodup_cons.mpr ⟨List.not_mem_nil, List.nodup_nil⟩, fun x hx y hy => n3 x hx y ?_⟩
    rw [List.mem_singleton] at hy
    rw [hy]
    exact List.mem_cons_self ..
  · have hw := h.ws
    rw [List.map_append, List.sum_append] at hw ⊢
    rw [List.map_congr_left (g := sz) (fun c hc => if_neg (fun e => n3 c hc l (List.mem_cons_self ..) e))]
    simp only [List.map_cons, List.map_nil, List.sum_cons, List.sum_nil, if_pos] at hw ⊢
    omega
  · rw [e25, e26, e34]
    exact h.tk m hm
  · rw [e25] at e
    rw [e29, h18]
    exact h.st m hm e
