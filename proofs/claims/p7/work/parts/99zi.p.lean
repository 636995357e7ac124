/-! IS IT A CONSTANT: the walk -/
/-- a row j that is used as a stack: its entries, the top first -/
def wAr (s : zS) (j : Nat) : List Nat → Prop
  | [] => True
  | k :: r => za s j r.length = (k : Int) ∧ wAr s j r
theorem wAr.fr {s s' : zS} {j : Nat} : ∀ {l : List Nat}, wAr s j l → (∀ i, i < l.length → za s' j i = za s j i) → wAr s' j l
  | [], _, _ => trivial
  | k :: r, h, e => by
    have hl : r.length < (k :: r).length := by show r.length < r.length + 1; omega
    exact ⟨by rw [e _ hl]; exact h.1, wAr.fr h.2 (fun i hi => e i (by omega))⟩
theorem sp_isK179 {Q : Int → zS → Prop} {k11 : zS → Int → Int → Prop} (x2 : Int) : ∀ (ks : List Nat) (c : Int) (n : Nat) (s : zS) (l : List Nat), fCh s c ks → (∀ x ∈ ks, x < 26000) → wAr s 60 l → l.length + ks.length < 26000 → ks.length < n → (∀ s', zSm s s' [60] [] → wAr s' 60 (ks.reverse ++ l) → k11 s' x2 ((ks.reverse ++ l).length : Nat)) → wr_isK_179 Q k11 n s x2 l.length c
  | [], c, 0, s, l, _, _, _, _, h, _ => absurd h (Nat.not_lt_zero _)
  | [], c, n + 1, s, l, h1, _, h3, _, _, hk => by
    have h1' : c = -1 := h1
    unfold wr_isK_179
    unfold wr_isK_179B
    exact ⟨fun _ => hk s zSm.rf h3, fun e => absurd (by omega) e⟩
  | a :: ks, c, 0, s, l, _, _, _, _, h, _ => absurd h (Nat.not_lt_zero _)
  | a :: ks, c, n + 1, s, l, h1, h2, h3, h4, h5, hk => by
    have h1' : c = (a : Int) := h1.1
    have ha := h2 a (List.mem_cons_self ..)
    have e4 : (a :: ks).length = ks.length + 1 := rfl
    rw [e4] at h4 h5
    subst h1'
    unfold wr_isK_179
    unfold wr_isK_179B
    rw [Int.toNat_natCast, Int.toNat_natCast]
    refine ⟨fun e => absurd e (by omega), fun _ => ⟨by omega, by omega, by omega, by omega, ⟨by omega, by omega⟩, ?_⟩⟩
    have f1 : zSm s (zpa s 60 l.length a) [60] [] := zSm.rf.pa rfl
    refine sp_isK179 x2 ks _ n (zpa s 60 l.length a) (a :: l) (h1.2.fr (fun _ _ => rfl)) (fun x hx => h2 x (List.mem_cons_of_mem _ hx)) ⟨?_, h3.fr (fun i hi => ?_)⟩ (by show l.length + 1 + ks.length < 26000; omega) (by omega) (fun s' f h => ?_)
    · rw [za_pa, if_pos rfl, if_pos rfl]
    · rw [za_pa, if_pos rfl, if_neg (by omega)]
    · have e : (a :: ks).reverse ++ l = ks.reverse ++ a :: l := by simp
      rw [e] at hk
      exact hk s' (f1.tr f rfl rfl) h
