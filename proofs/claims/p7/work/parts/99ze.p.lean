/-! A COMMAND'S BEGINNING; every step -/
theorem sp_beginsE (s : zS) (a : Int) : wr_beginsE s a (fun r s' => s = s' ∧ (a = 0 → r = 0)) := by
  unfold wr_beginsE
  repeat' (first | (with_reducible intro _) | (with_reducible apply And.intro) | omega | rfl)
theorem st_11 {s0 s : zS} {x y z : Int} {r : List pG} {S K : List Int} {N : Nat} {M : Int} (hx : pX s0 s (11, x, y, z) r S K N M) {Q : Int → zS → Prop} (hq : ∀ e s', pR s0 M e s' → Q e s') : wr_reachC s 11 x y z Q := by
  obtain ⟨h0, t0, t1, t2, d0, d1, ok, pot, eM, hK, pre, cost, hr⟩ := hx
  have hl : (r.length : Int) + 38 ≤ 60 * (zv s 44 + 1) := cost
  have hp : (N : Int) + (1 + pPots r) ≤ 2 * zv s 43 + 4 := pot
  have hM : M = 200 * (zv s0 8 - zv s 43) + (27 + pWgts r) := eM
  have hp0 := pP0 r
  obtain ⟨o1, o2, o3⟩ := h0.outs
  clear cost pot eM
  unfold wr_reachC
  refine sp_tkM h0 t0 (by omega) (fun k hk => ?_)
  repeat' (first | (with_reducible refine ⟨fun c => absurd c (by decide), fun _ => ?_⟩) | (with_reducible refine ⟨fun _ => ?_, fun c => absurd c (by decide)⟩) | fail)
  refine sp_goalM h0 (by show (r.length : Nat) < 9000; omega) _ _ _ _ (fun s1 h1 a1 b1 c1 => ?_)
  have cs0 : ∀ kk : Int, kC kk → ∀ d', zv s 44 ≤ d' → ∀ t', zv s 43 ≤ t' → pTy ((12, zv s 44, 0, zv s 37) :: r) (K ++ [kk]) d' S t' := fun kk hkk d' hd t' ht => by
    refine ⟨⟨⟨K, [kk], rfl, o1, kk, rfl, hkk⟩, d0, d1, ok⟩, by show (r.length : Int) + 2 ≤ 60 * (d' + 1); omega, fun K2 D2 S2 T2 e2 g1 g2 g3 g4 => ?_⟩
    obtain ⟨e2, rfl, rfl⟩ := e2
    obtain ⟨k2, q2, rfl⟩ := e2 K [kk] rfl o1
    exact hr _ _ _ _ ⟨⟨k2, q2, rfl⟩, rfl, rfl⟩ d0 d1 ok (by omega)
  have no : ∀ s1 g1 S1 K1 N1, pM s0 s1 g1 S1 K1 N1 → 0 ≤ zv s1 43 → zv s1 43 ≤ zv s0 8 → ((0 : Int) = 0 ∨ (0 : Int) = 1) ∧ Q 0 s1 := fun s1 g1 S1 K1 N1 h1 a b => ⟨Or.inl rfl, hq _ _ (pR.no h1 a b)⟩
  have o2' : zv s1 37 = (K.length : Int) := by omega
  have nothing : wr_leaf s1 37 (zv s 43) 0 (fun s4 => ((1 : Int) = 0 ∨ (1 : Int) = 1) ∧ Q 1 s4) := by
    refine sp_leafM h1 (by omega) (fE_lf (by decide)) (by decide) (by decide) (by decide) (fun e => absurd e (by decide)) t0 (by omega) (fun s4 h4 a4 b4' => ⟨Or.inr rfl, ?_⟩)
    refine hq _ _ (pR.ok h4 (d := zv s 44) (t := zv s 43) (by omega) (by omega) (by omega) (by omega) (by omega) (by omega) ok (by show (((N + 1 : Nat) : Int) : Int) + (0 + pPots r) ≤ _; omega) (by show 200 * (zv s0 8 - (zv s 43)) + (1 + pWgts r) < _; omega) ?_)
    exact cs0 37 ⟨by decide, by decide⟩ _ (Int.le_refl _) _ (Int.le_refl _)
  unfold wr_command
  refine ⟨fun _ => nothing, fun _ => ⟨fun c11 => ?_, fun _ => nothing⟩⟩
  refine ffm_beginsE (sp_beginsE s1 k) ?_
  rintro v s' - ⟨rfl, hv⟩
  refine ⟨fun _ => ?_, fun c => ?_⟩
  · refine ⟨fun c10 => ?_, fun c10 => ?_⟩
    · refine ⟨⟨by omega, by omega⟩, ?_⟩
      obtain ⟨s2, es, h2, a2, b2, c2⟩ := h1.at1
      rw [es]
      -- by a word
      have lf : ∀ n, (n = 29 ∨ n = 30 ∨ n = 31 ∨ n = 32 ∨ n = 34) → ¬ k = 0 → wr_leaf s2 n (zv s 43) 0 (fun s4 => ((1 : Int) = 0 ∨ (1 : Int) = 1) ∧ Q 1 s4) := fun n hn hk0 => by
        have hk2 := hk hk0
        refine sp_leafM h2 (by omega) (fE_lf (by omega)) (by omega) (by omega) (by omega) (fun e => absurd e (by omega)) t0 (by omega) (fun s4 h4 a4 b4' => ⟨Or.inr rfl, ?_⟩)
        refine hq _ _ (pR.ok h4 (d := zv s 44) (t := zv s 43 + 1) (by omega) (by omega) (by omega) (by omega) (by omega) (by omega) ok (by show (((N + 1 : Nat) : Int) : Int) + (0 + pPots r) ≤ _; omega) (by show 200 * (zv s0 8 - (zv s 43 + 1)) + (1 + pWgts r) < _; omega) ?_)
        exact cs0 n ⟨by omega, by omega⟩ _ (Int.le_refl _) _ (by omega)
      have ifs : ∀ n, (n = 22 ∨ n = 23 ∨ n = 25 ∨ n = 26) → ¬ k = 0 → wr_goal s2 6 n (zv s 43) (zv s 37) (fun s151 => wr_goal s151 14 0 0 0 (fun s157 => wr_goal s157 13 0 0 0 (fun s163 => wr_goal s163 28 0 0 0 (fun s169 => ((1 : Int) = 0 ∨ (1 : Int) = 1) ∧ Q 1 s169)))) := fun n hn hk0 => by
        have hk2 := hk hk0
        refine sp_goalM h2 (by show (r.length + 1 : Nat) < 9000; omega) _ _ _ _ (fun s3 h3 a3 b3 c3 => ?_)
        refine sp_goalM h3 (by show (r.length + 1 + 1 : Nat) < 9000; omega) _ _ _ _ (fun s4 h4 a4 b4 c4 => ?_)
        refine sp_goalM h4 (by show (r.length + 1 + 1 + 1 : Nat) < 9000; omega) _ _ _ _ (fun s5 h5 a5 b5 c5 => ?_)
        refine sp_goalM h5 (by show (r.length + 1 + 1 + 1 + 1 : Nat) < 9000; omega) _ _ _ _ (fun s6 h6 a6 b6 c6 => ?_)
        refine ⟨Or.inr rfl, ?_⟩
        refine hq _ _ (pR.ok h6 (d := zv s 44) (t := zv s 43 + 1) (by omega) (by omega) (by omega) (by omega) (by omega) (by omega) ok (by show (N : Int) + (0 + (0 + (1 + (1 + (0 + pPots r))))) ≤ _; omega) (by show 200 * (zv s0 8 - (zv s 43 + 1)) + (22 + (1 + (29 + (1 + (1 + pWgts r))))) < _; omega) ?_)
        refine tyE kE trivial (by show ((r.length + 1 + 1 + 1 + 1 : Nat) : Int) + 30 ≤ _; omega) (fun _ _ _ e => e) (fun k1 T1 q1 f1 => ?_)
        refine tyEX trivial (by show ((r.length + 1 + 1 + 1 : Nat) : Int) + 1 ≤ _; omega) (fun _ _ _ e => e) (fun T2 f2 => ?_)
        refine tyE kC trivial (by show ((r.length + 1 + 1 : Nat) : Int) + 2 ≤ _; omega) (fun _ _ _ e => e) (fun k3 T3 q3 f3 => ?_)
        rw [List.append_assoc]
        refine tySH o1 (fE_ec hn q1 q3) (by omega) (by omega) (by omega) (by omega) t0 (by omega) (by show ((r.length + 1 : Nat) : Int) + 1 ≤ _; omega) (fun T4 f4 => ?_)
        exact cs0 n ⟨by omega, by omega⟩ _ (Int.le_refl _) _ (by omega)
      have m292 : ¬ k = 0 ∨ k = 0 → wr_command_292 (fun r s => (r = 0 ∨ r = 1) ∧ Q r s) s2 k (zv s 43) (zv s 37) (-1) := fun _ => by
        unfold wr_command_292
        refine ⟨fun _ => ⟨fun n50 => ⟨fun n54 => ⟨fun n57 => ⟨⟨by omega, by omega⟩, ?_⟩, fun c => ?_⟩, fun c => ?_⟩, fun c => ?_⟩, fun e => absurd (by decide) e⟩
        · have h3 := h2.put 43 (zv s2 43 - 1) (Or.inl rfl)
          exact no _ _ _ _ _ h3 (by show 0 ≤ zv s2 43 - 1; omega) (by show zv s2 43 - 1 ≤ _; omega)
        · have hk2 := hk (by omega)
          refine sp_goalM h2 (by show (r.length + 1 : Nat) < 9000; omega) _ _ _ _ (fun s3 h3 a3 b3 c3 => ?_)
          refine sp_goalM h3 (by show (r.length + 1 + 1 : Nat) < 9000; omega) _ _ _ _ (fun s4 h4 a4 b4 c4 => ?_)
          refine sp_goalM h4 (by show (r.length + 1 + 1 + 1 : Nat) < 9000; omega) _ _ _ _ (fun s5 h5 a5 b5 c5 => ?_)
          refine sp_goalM h5 (by show (r.length + 1 + 1 + 1 + 1 : Nat) < 9000; omega) _ _ _ _ (fun s6 h6 a6 b6 c6 => ?_)
          refine ⟨Or.inr rfl, ?_⟩
          refine hq _ _ (pR.ok h6 (d := zv s 44) (t := zv s 43 + 1) (by omega) (by omega) (by omega) (by omega) (by omega) (by omega) ok (by show (N : Int) + (0 + (0 + (0 + (3 + (0 + pPots r))))) ≤ _; omega) (by show 200 * (zv s0 8 - (zv s 43 + 1)) + (22 + (1 + (1 + (32 + (1 + pWgts r))))) < _; omega) ?_)
          refine tyE kE trivial (by show ((r.length + 1 + 1 + 1 + 1 : Nat) : Int) + 30 ≤ _; omega) (fun _ _ _ e => e) (fun k1 T1 q1 f1 => ?_)
          refine tyEX (show ¬ (58 : Int) = 0 by decide) (by show ((r.length + 1 + 1 + 1 : Nat) : Int) + 1 ≤ _; omega) (fun _ _ _ e => e) (fun T2 f2 => ?_)
          refine ⟨trivial, (by show ((r.length + 1 + 1 : Nat) : Int) + 1 ≤ _; omega), fun K3 D3 S3 T3 e3 g1 g2 g3 g4 => ?_⟩
          obtain ⟨rfl, rfl, rfl⟩ := e3
          refine tyS 28 o1 ⟨⟨K, [k1], rfl, o1, k1, [], rfl, q1, fun e => absurd e (by decide : ¬ (22 : Int) = 24), fun c hc => absurd hc List.not_mem_nil⟩, by simp, t0, by show zv s 43 ≤ 12000; omega⟩ (by show ((r.length + 1 : Nat) : Int) + 44 ≤ 60 * (zv s 44 + 1 + 1); omega) (fun _ _ _ e => e) (fun T4 f4 => ?_)
          exact cs0 28 ⟨by decide, by decide⟩ _ (Int.le_refl _) _ (by omega)
        · have hk2 := hk (by omega)
          refine sp_tkM h2 (by omega) (by omega) (fun k5 hk5 => ⟨fun c1 => ?_, fun _ => no _ _ _ _ _ h2 (by omega) (by omega)⟩)
          have hk6 := hk5 (by omega)
          refine ⟨by omega, by omega, ?_⟩
          refine sp_leafM h2 (by omega) (fE_lf (by decide)) (by decide) (by decide) (by decide) (fun e => absurd e (by decide)) (by omega) (by omega) (fun s4 h4 a4 b4' => ⟨⟨by omega, by omega⟩, ?_⟩)
          obtain ⟨s5, es5, h5, a5, b5, c5⟩ := h4.at1
          rw [es5]
          refine sp_goalM h5 (by show (r.length + 1 : Nat) < 9000; omega) _ _ _ _ (fun s6 h6 a6 b6 c6 => ?_)
          refine sp_goalM h6 (by show (r.length + 1 + 1 : Nat) < 9000; omega) _ _ _ _ (fun s7 h7 a7 b7 c7 => ?_)
          refine sp_goalM h7 (by show (r.length + 1 + 1 + 1 : Nat) < 9000; omega) _ _ _ _ (fun s8 h8 a8 b8 c8 => ?_)
          refine sp_goalM h8 (by show (r.length + 1 + 1 + 1 + 1 : Nat) < 9000; omega) _ _ _ _ (fun s9 h9 a9 b9 c9 => ?_)
          refine sp_goalM h9 (by show (r.length + 1 + 1 + 1 + 1 + 1 : Nat) < 9000; omega) _ _ _ _ (fun s10 h10 a10 b10 c10 => ?_)
          refine sp_goalM h10 (by show (r.length + 1 + 1 + 1 + 1 + 1 + 1 : Nat) < 9000; omega) _ _ _ _ (fun s11 h11 a11 b11 c11 => ?_)
          refine sp_goalM h11 (by show (r.length + 1 + 1 + 1 + 1 + 1 + 1 + 1 : Nat) < 9000; omega) _ _ _ _ (fun s12 h12 a12 b12 c12 => ?_)
          refine sp_takeN h12 (by omega) (by omega) (by decide) ⟨Or.inl rfl, no _ _ _ _ _ h12 (by omega) (by omega)⟩ (fun v1 v2 s13 h13 a13 b13 c13 => ⟨Or.inr rfl, Or.inr rfl, ?_⟩)
          refine hq _ _ (pR.ok h13 (d := zv s 44) (t := zv s 43 + 3) (by omega) (by omega) (by omega) (by omega) (by omega) (by omega) ok (by show (((N + 1 : Nat) : Int) : Int) + (0 + (0 + (0 + (0 + (0 + (1 + (1 + (0 + pPots r)))))))) ≤ _; omega) (by show 200 * (zv s0 8 - (zv s 43 + 3)) + (22 + (1 + (22 + (1 + (1 + (29 + (1 + (1 + pWgts r)))))))) < _; omega) ?_)
          refine tyE kE trivial (by show ((r.length + 1 + 1 + 1 + 1 + 1 + 1 + 1 : Nat) : Int) + 30 ≤ _; omega) (fun _ _ _ e => e) (fun k1 T1 q1 f1 => ?_)
          refine tyEX (show ¬ (55 : Int) = 0 by decide) (by show ((r.length + 1 + 1 + 1 + 1 + 1 + 1 : Nat) : Int) + 1 ≤ _; omega) (fun _ _ _ e => e) (fun T2 f2 => ?_)
          refine tyE kE trivial (by show ((r.length + 1 + 1 + 1 + 1 + 1 : Nat) : Int) + 30 ≤ _; omega) (fun _ _ _ e => e) (fun k3 T3 q3 f3 => ?_)
          refine ⟨trivial, (by show ((r.length + 1 + 1 + 1 + 1 : Nat) : Int) + 31 ≤ _; omega), fun K4 D4 S4 T4 e4 g1 g2 g3 g4 => ?_⟩
          obtain ⟨e4, rfl, rfl⟩ := e4
          have last : ∀ l T5, (l = [] ∨ ∃ e, l = [e] ∧ kE e) → zv s 43 ≤ T5 → pTy ((13, 0, 0, 0) :: (14, 0, 0, 0) :: (6, 27, zv s 43, zv s 37) :: (12, zv s 44, 0, zv s 37) :: r) (K ++ [58] ++ [k1] ++ [k3] ++ l) (zv s 44) S4 T5 := fun l T5 hl5 hT5 => by
            refine tyEX trivial (by show ((r.length + 1 + 1 + 1 : Nat) : Int) + 1 ≤ _; omega) (fun _ _ _ e => e) (fun T6 f6 => ?_)
            refine tyE kC trivial (by show ((r.length + 1 + 1 : Nat) : Int) + 2 ≤ _; omega) (fun _ _ _ e => e) (fun k7 T7 q7 f7 => ?_)
            rw [show K ++ [58] ++ [k1] ++ [k3] ++ l ++ [k7] = K ++ 58 :: k1 :: k3 :: (l ++ [k7]) by simp]
            refine tySH o1 (fE_fo q1 q3 q7 hl5) (by decide) (by decide) (by decide) (by decide) t0 (by omega) (by show ((r.length + 1 : Nat) : Int) + 1 ≤ _; omega) (fun T8 f8 => ?_)
            exact cs0 27 ⟨by decide, by decide⟩ _ (Int.le_refl _) _ (by omega)
          rcases e4 with rfl | ⟨k4, q4, rfl⟩
          · have := last [] T4 (Or.inl rfl) (by omega)
            rw [List.append_nil] at this
            exact this
          · exact last [k4] T4 (Or.inr ⟨k4, rfl, q4⟩) (by omega)
        · have hk2 := hk (by omega)
          refine sp_goalM h2 (by show (r.length + 1 : Nat) < 9000; omega) _ _ _ _ (fun s3 h3 a3 b3 c3 => ?_)
          refine sp_goalM h3 (by show (r.length + 1 + 1 : Nat) < 9000; omega) _ _ _ _ (fun s4 h4 a4 b4 c4 => ?_)
          refine sp_goalM h4 (by show (r.length + 1 + 1 + 1 : Nat) < 9000; omega) _ _ _ _ (fun s5 h5 a5 b5 c5 => ?_)
          refine sp_goalM h5 (by show (r.length + 1 + 1 + 1 + 1 : Nat) < 9000; omega) _ _ _ _ (fun s6 h6 a6 b6 c6 => ?_)
          refine sp_goalM h6 (by show (r.length + 1 + 1 + 1 + 1 + 1 : Nat) < 9000; omega) _ _ _ _ (fun s7 h7 a7 b7 c7 => ?_)
          refine sp_goalM h7 (by show (r.length + 1 + 1 + 1 + 1 + 1 + 1 : Nat) < 9000; omega) _ _ _ _ (fun s8 h8 a8 b8 c8 => ?_)
          refine ⟨Or.inr rfl, ?_⟩
          refine hq _ _ (pR.ok h8 (d := zv s 44) (t := zv s 43 + 1) (by omega) (by omega) (by omega) (by omega) (by omega) (by omega) ok (by show (N : Int) + (0 + (0 + (1 + (0 + (1 + (1 + (0 + pPots r))))))) ≤ _; omega) (by show 200 * (zv s0 8 - (zv s 43 + 1)) + (22 + (1 + (29 + (1 + (29 + (1 + (1 + pWgts r))))))) < _; omega) ?_)
          refine tyE kE trivial (by show ((r.length + 1 + 1 + 1 + 1 + 1 + 1 : Nat) : Int) + 30 ≤ _; omega) (fun _ _ _ e => e) (fun k1 T1 q1 f1 => ?_)
          refine tyEX trivial (by show ((r.length + 1 + 1 + 1 + 1 + 1 : Nat) : Int) + 1 ≤ _; omega) (fun _ _ _ e => e) (fun T2 f2 => ?_)
          refine tyE kC trivial (by show ((r.length + 1 + 1 + 1 + 1 : Nat) : Int) + 2 ≤ _; omega) (fun _ _ _ e => e) (fun k3 T3 q3 f3 => ?_)
          refine tyEX (show ¬ (51 : Int) = 0 by decide) (by show ((r.length + 1 + 1 + 1 : Nat) : Int) + 1 ≤ _; omega) (fun _ _ _ e => e) (fun T4 f4 => ?_)
          refine tyE kC trivial (by show ((r.length + 1 + 1 : Nat) : Int) + 2 ≤ _; omega) (fun _ _ _ e => e) (fun k5 T5 q5 f5 => ?_)
          rw [show K ++ [k1] ++ [k3] ++ [k5] = K ++ [k1, k3, k5] by simp]
          refine tySH o1 (fE_te q1 q3 q5) (by decide) (by decide) (by decide) (by decide) t0 (by omega) (by show ((r.length + 1 : Nat) : Int) + 1 ≤ _; omega) (fun T6 f6 => ?_)
          exact cs0 24 ⟨by decide, by decide⟩ _ (Int.le_refl _) _ (by omega)
      have i292 : ∀ n, (n = 22 ∨ n = 23 ∨ n = 25 ∨ n = 26) → ¬ k = 0 → wr_command_292 (fun r s => (r = 0 ∨ r = 1) ∧ Q r s) s2 k (zv s 43) (zv s 37) n := fun n hn hk0 => by
        unfold wr_command_292
        exact ⟨fun e => absurd e (by omega), fun _ => ifs n hn hk0⟩
      have c156 : ∀ n, (n = 29 ∨ n = 30 ∨ n = 31 ∨ n = 32 ∨ n = 34) → ¬ k = 0 → wr_command_156 (fun r s => (r = 0 ∨ r = 1) ∧ Q r s) s2 k (zv s 43) (zv s 37) n := fun n hn hk0 => by
        unfold wr_command_156
        exact ⟨fun e => absurd e (by omega), fun _ => lf n hn hk0⟩
      refine ⟨fun _ => ⟨fun _ => ⟨fun _ => ⟨fun _ => ⟨fun _ => ?_, fun c => c156 34 (by decide) (by omega)⟩, fun c => c156 32 (by decide) (by omega)⟩, fun c => c156 31 (by decide) (by omega)⟩, fun c => c156 30 (by decide) (by omega)⟩, fun c => c156 29 (by decide) (by omega)⟩
      unfold wr_command_156
      refine ⟨fun _ => ⟨fun _ => ⟨fun _ => ⟨fun _ => ⟨fun _ => ⟨fun _ => ⟨fun _ => m292 (Decidable.em _).symm, fun c => i292 26 (by decide) (by omega)⟩, fun c => i292 25 (by decide) (by omega)⟩, fun c => i292 23 (by decide) (by omega)⟩, fun c => i292 22 (by decide) (by omega)⟩, fun c => ?_⟩, fun c => ?_⟩, fun e => absurd (by decide) e⟩
      · have hk2 := hk (by omega)
        refine sp_tkM h2 (by omega) (by omega) (fun k5 hk5 => ⟨fun c1 => ?_, fun _ => no _ _ _ _ _ h2 (by omega) (by omega)⟩)
        have hk6 := hk5 (by omega)
        refine ⟨by omega, by omega, ?_⟩
        refine sp_leafM h2 (by omega) (fE_lf (by decide)) (by decide) (by decide) (by decide) (fun e => absurd e (by decide)) (by omega) (by omega) (fun s4 h4 a4 b4' => ⟨⟨by omega, by omega⟩, Or.inr rfl, ?_⟩)
        obtain ⟨s5, es5, h5, a5, b5, c5⟩ := h4.at1
        rw [es5]
        refine hq _ _ (pR.ok h5 (d := zv s 44) (t := zv s 43 + 2) (by omega) (by omega) (by omega) (by omega) (by omega) (by omega) ok (by show (((N + 1 : Nat) : Int) : Int) + (0 + pPots r) ≤ _; omega) (by show 200 * (zv s0 8 - (zv s 43 + 2)) + (1 + pWgts r) < _; omega) ?_)
        exact cs0 35 ⟨by decide, by decide⟩ _ (Int.le_refl _) _ (by omega)
      · have hk2 := hk (by omega)
        refine sp_goalM h2 (by show (r.length + 1 : Nat) < 9000; omega) _ _ _ _ (fun s3 h3 a3 b3 c3 => ?_)
        refine sp_goalM h3 (by show (r.length + 1 + 1 : Nat) < 9000; omega) _ _ _ _ (fun s4 h4 a4 b4 c4 => ?_)
        refine ⟨Or.inr rfl, ?_⟩
        refine hq _ _ (pR.ok h4 (d := zv s 44) (t := zv s 43 + 1) (by omega) (by omega) (by omega) (by omega) (by omega) (by omega) ok (by show (N : Int) + (0 + (1 + (0 + pPots r))) ≤ _; omega) (by show 200 * (zv s0 8 - (zv s 43 + 1)) + (22 + (1 + (1 + pWgts r))) < _; omega) ?_)
        refine tyE kE trivial (by show ((r.length + 1 + 1 : Nat) : Int) + 30 ≤ _; omega) (fun _ _ _ e => e) (fun k1 T1 q1 f1 => ?_)
        refine tySH o1 (fE_e1 (by decide) q1) (by decide) (by decide) (by decide) (by decide) t0 (by omega) (by show ((r.length + 1 : Nat) : Int) + 1 ≤ _; omega) (fun T2 f2 => ?_)
        exact cs0 33 ⟨by decide, by decide⟩ _ (Int.le_refl _) _ (by omega)
    · refine sp_openM h1 (by omega) (by omega) (by omega) (by omega) (by rw [b1]; exact ok) ⟨fun e => absurd rfl e, fun _ => no _ _ _ _ _ h1 (by omega) (by omega)⟩ (fun v1 v2 s3 h3 a3 b3 c3 => ⟨fun _ => ?_, fun e => absurd e (by decide)⟩)
      rw [b1] at h3
      refine sp_tkM h3 (by omega) (by omega) (fun k5 hk5 => ?_)
      refine ffm_isD (sp_isD s3 k5) ?_
      rintro v s' - ⟨rfl, -⟩
      have G : ∀ g, (g = 18 ∨ g = 20) → wr_goal s3 g 0 (zv s 43) (zv s 37) (fun s65 => ((1 : Int) = 0 ∨ (1 : Int) = 1) ∧ Q 1 s65) := fun g hg => by
        have okd : okS (zv s 44 :: S) (zv s 44 + 1) := ⟨by have := ok.le; omega, d1, ok⟩
        have P : pPre (g, 0, zv s 43, zv s 37) (K ++ []) (zv s 44 + 1) (zv s 44 :: S) (zv s 43 + 1) := by
          rcases hg with rfl | rfl <;> exact ⟨⟨K, [], rfl, o1, fun c hc => absurd hc List.not_mem_nil⟩, by simp, t0, by show zv s 43 ≤ 12000; omega⟩
        refine sp_goalM h3 (by show (r.length + 1 : Nat) < 9000; omega) _ _ _ _ (fun s4 h4 a4 b4 c4 => ?_)
        refine ⟨Or.inr rfl, ?_⟩
        rcases hg with rfl | rfl
        · refine hq _ _ (pR.ok h4 (d := zv s 44 + 1) (t := zv s 43 + 1) (by omega) (by omega) (by omega) (by omega) (by omega) (by omega) okd (by show (N : Int) + (1 + (0 + pPots r)) ≤ _; omega) (by show 200 * (zv s0 8 - (zv s 43 + 1)) + (3 + (1 + pWgts r)) < _; omega) ?_)
          have F : pTy ((18, 0, zv s 43, zv s 37) :: (12, zv s 44, 0, zv s 37) :: r) (K ++ []) (zv s 44 + 1) (zv s 44 :: S) (zv s 43 + 1) := tyS 36 o1 P (by show ((r.length + 1 : Nat) : Int) + 46 ≤ 60 * (zv s 44 + 1 + 1); omega) (fun _ _ _ e => e) (fun T2 f2 => cs0 36 ⟨by decide, by decide⟩ _ (Int.le_refl _) _ (by omega))
          rw [List.append_nil] at F
          exact F
        · refine hq _ _ (pR.ok h4 (d := zv s 44 + 1) (t := zv s 43 + 1) (by omega) (by omega) (by omega) (by omega) (by omega) (by omega) okd (by show (N : Int) + (3 + (0 + pPots r)) ≤ _; omega) (by show 200 * (zv s0 8 - (zv s 43 + 1)) + (30 + (1 + pWgts r)) < _; omega) ?_)
          have F : pTy ((20, 0, zv s 43, zv s 37) :: (12, zv s 44, 0, zv s 37) :: r) (K ++ []) (zv s 44 + 1) (zv s 44 :: S) (zv s 43 + 1) := tyS 36 o1 P (by show ((r.length + 1 : Nat) : Int) + 41 ≤ 60 * (zv s 44 + 1 + 1); omega) (fun _ _ _ e => e) (fun T2 f2 => cs0 36 ⟨by decide, by decide⟩ _ (Int.le_refl _) _ (by omega))
          rw [List.append_nil] at F
          exact F
      exact ⟨fun _ => G 20 (Or.inr rfl), fun _ => G 18 (Or.inl rfl)⟩
  · skip
    refine sp_goalM h1 (by show (r.length + 1 : Nat) < 9000; omega) _ _ _ _ (fun s2 h2 a2 b2 c2 => ?_)
    refine sp_goalM h2 (by show (r.length + 1 + 1 : Nat) < 9000; omega) _ _ _ _ (fun s3 h3 a3 b3 c3 => ?_)
    refine ⟨Or.inr rfl, ?_⟩
    refine hq _ _ (pR.ok h3 (d := zv s 44) (t := zv s 43) (by omega) (by omega) (by omega) (by omega) (by omega) (by omega) ok (by show (N : Int) + (0 + (1 + (0 + pPots r))) ≤ _; omega) (by show 200 * (zv s0 8 - (zv s 43)) + (22 + (2 + (1 + pWgts r))) < _; omega) ?_)
    refine tyE kE trivial (by show ((r.length + 1 + 1 : Nat) : Int) + 30 ≤ _; omega) (fun _ _ _ e => e) (fun k1 T1 q1 f1 => ?_)
    refine tyTE kC o1 ⟨⟨K, [k1], rfl, o1, k1, rfl, q1⟩, t0, by show zv s 43 ≤ 12000; omega⟩ (by show ((r.length + 1 : Nat) : Int) + 34 ≤ _; omega) (fun _ _ _ e => e) (fun k2 T2 q2 f2 => ?_)
    exact cs0 k2 q2 _ (Int.le_refl _) _ (by omega)
