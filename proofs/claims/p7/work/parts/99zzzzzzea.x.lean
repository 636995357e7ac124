theorem gNk.k0 {d : gD} {F : gM} {a q mo : Nat} (h : gNk d F (a, q, mo, 0)) : gIn d F a q mo 16 0 (fun _ => 0) := by
  rcases h with ⟨-, h⟩ | ⟨e, -⟩ | ⟨e, -⟩
  · exact h
  · exact absurd (show (0 : Nat) = 1 from e) (by decide)
  · exact absurd (show (0 : Nat) = 2 from e) (by decide)
theorem gNk.k1 {d : gD} {F : gM} {a q mo : Nat} (h : gNk d F (a, q, mo, 1)) : ∃ n z f, gIn d F a q mo n z f := by
  rcases h with ⟨e, -⟩ | ⟨-, h⟩ | ⟨e, -⟩
  · exact absurd (show (1 : Nat) = 0 from e) (by decide)
  · exact h
  · exact absurd (show (1 : Nat) = 2 from e) (by decide)
theorem gNk.k2 {d : gD} {F : gM} {q n : Nat} (h : gNk d F (q, q, n, 2)) : F q = .inl (gI d, n, .inl (fun _ => 0)) := by
  rcases h with ⟨e, -⟩ | ⟨e, -⟩ | ⟨-, -, h⟩
  · exact absurd (show (2 : Nat) = 0 from e) (by decide)
  · exact absurd (show (2 : Nat) = 1 from e) (by decide)
  · exact h
def gix (j : Nat) : Nat := if j < 38 then j else if j < 44 then j + 1 else if j = 44 then 38 else 45
theorem gix_inj {i j : Nat} (hi : i < 46) (hj : j < 46) (h : gix i = gix j) : i = j := by
  unfold gix at h
  repeat' split at h
  all_goals omega
def gn3 (x y w : Nat) : Nat → Nat
  | 18 => x
  | 19 => y
  | 20 => w
  | 45 => 4096
  | _ => 16
def gz3 (x y w : Nat) : Nat → Nat
  | 18 => x
  | 19 => y
  | 20 => w
  | _ => 0
def gf3 (x y w : Nat → Int32) : Nat → Nat → Int32
  | 18 => x
  | 19 => y
  | 20 => w
  | _ => fun _ => 0
def gvin (kn : Nat) : Nat → Int32
  | 0 => 4096
  | 1 => 4096
  | 2 => 4096
  | 3 => -1
  | 7 => nI kn
  | 13 => -1
  | 14 => -1
  | 15 => -1
  | 16 => -1
  | 21 => -1
  | 30 => -1
  | 35 => -1
  | _ => 0
theorem gNdup {xs : List Nat} (h : xs.Nodup) {i j x : Nat} (hi : xs[i]? = some x) (hj : xs[j]? = some x) : i = j := by
  obtain ⟨h1, e1⟩ := List.getElem?_eq_some_iff.mp hi
  exact (List.getElem?_inj h1 h).mp (hi.trans hj.symm)
set_option maxRecDepth 20000 in
theorem s_WT_of {d : gD} {F F' : gM} {t a0 q1 a2 q3 a4 q5 a6 q7 a8 q9 a10 q11 a12 q13 a14 q15 a16 q17 a18 q19 a20 q21 a22 q23 a24 q25 a26 q27 a28 q29 a30 q31 a32 q33 a34 q35 a36 q37 a38 q39 a40 q41 a42 q43 a44 q45 a46 q47 a48 q49 a50 q51 a52 q53 a54 q55 a56 q57 a58 q59 a60 q61 a62 q63 a64 q65 a66 q67 o68 q69 o70 q71 o72 q73 o74 q75 q76 o77 q78 o79 q80 a81 q82 a83 q84 a85 q86 a87 q88 q89 o90 o91 o92 o93 o94 o95 o96 o97 z98 z99 o100 o101 kn0 : Nat} (h : gCn d t 11 F F' [.ref a0, .ref o90, .ref o91, .ref o92, .ref o93, .ref o94, .ref o97, .ref o100, .int 4096, .int 4096] [(a0, q1, 6000, 0), (a2, q3, 1000000, 0), (a4, q5, 1000000, 0), (a6, q7, 1000000, 0), (a8, q9, 1000000, 0), (a10, q11, 1000000, 0), (a12, q13, 1000000, 0), (a14, q15, 1000000, 0), (a16, q17, 1000000, 0), (a18, q19, 1000000, 0), (a20, q21, 1000000, 0), (a22, q23, 1000000, 0), (a24, q25, 1000000, 0), (a26, q27, 1000000, 0), (a28, q29, 1000000, 0), (a30, q31, 1000000, 0), (a32, q33, 1000000, 0), (a34, q35, 1000000, 0), (a36, q37, 1000000, 1), (a38, q39, 1000000, 1), (a40, q41, 1000000, 1), (a42, q43, 1000000, 0), (a44, q45, 1000000, 0), (a46, q47, 1000000, 0), (a48, q49, 1000000, 0), (a50, q51, 1000000, 0), (a52, q53, 1000000, 0), (a54, q55, 1000000, 0), (a56, q57, 1000000, 0), (a58, q59, 1000000, 0), (a60, q61, 1000000, 0), (a62, q63, 1000000, 0), (a64, q65, 1000000, 0), (a66, q67, 1000000, 0), (o68, q69, 6000, 0), (o70, q71, 6000, 0), (o72, q73, 6000, 0), (o74, q75, 6000, 0), (q76, q76, 4, 2), (o77, q78, 4096, 0), (o79, q80, 4096, 0), (a81, q82, 100, 0), (a83, q84, 100, 0), (a85, q86, 1000000, 0), (a87, q88, 1000000, 0), (q89, q89, 4096, 2)]) (k0 : F' o90 = .inr (7, [.ref a2, .ref a4, .ref a6, .ref a8, .ref a10, .ref a12, .int 4096, .int (-1), .int 0, .int 0, .int 0])) (k1 : F' o91 = .inr (10, [.ref a14, .ref a16, .ref a18, .ref a20, .ref a22, .ref a24, .ref a26])) (k2 : F' o92 = .inr (8, [.ref a0, .ref a28, .ref a30, .ref a32, .ref a34, .ref a36, .ref a38, .ref a40, .int (nI kn0), .int 0, .int 0])) (k3 : F' o93 = .inr (6, [.ref a28, .ref a30, .ref a32, .ref a34, .ref o91, .ref o90, .ref a42, .ref a44, .ref a46, .int 0, .int 0, .int 0])) (k4 : F' o94 = .inr (1, [.ref o91, .ref o90, .ref o95, .ref o96, .ref a48, .ref a50, .ref a52, .int (-1), .int (-1), .int (-1), .int (-1), .int 0, .int 0, .int 0, .int 0, .int (-1), .int 0, .int 0, .int 0])) (k5 : F' o95 = .inr (9, [.ref o90, .ref a54, .ref a56, .ref a58, .ref a60, .ref a62, .ref a64, .int 0])) (k6 : F' o96 = .inr (2, [.ref o91, .ref o90, .ref o95, .ref a66, .int 0, .int 0, .int 0])) (k7 : F' o97 = .inr (0, [.ref z98, .ref q76, .ref z99, .int 0, .int 0])) (k8 : F' z98 = .inl (gO d, 4, .inr (.inr (.inr (.inr (va_up (va_up (va_up (va_up (fun _ => none) 0 (some o68)) 1 (some o70)) 2 (some o72)) 3 (some o74))))))) (k9 : F' z99 = .inl (gO d, 2, .inr (.inr (.inr (.inr (va_up (va_up (fun _ => none) 0 (some o77)) 1 (some o79))))))) (k10 : F' o100 = .inr (5, [.ref o90, .ref o97, .ref o101, .ref a85, .ref a87, .ref q89, .int 0, .int 0, .int 0, .int (-1), .int 0, .int 0, .int 0, .int 0, .int (-1), .int 0])) (k11 : F' o101 = .inr (3, [.ref a81, .ref a83])) {sq sn sz : Nat → Nat} (sT : gT3 d F' (gT a36 a38 a40) sq sn sz) (se0 : sq 0 = q37) (se1 : sq 1 = q39) (se2 : sq 2 = q41) (ekn : kn0 = sz 0) : ∃ (Y : gYt) (S : gSt), gO' Y 0 = t ∧ gWT d Y F' S ∧ ((∀ j, j < 44 → (j == 18 || j == 19 || j == 20) = false → sZ S j = 0 ∧ sN S j = 16) ∧ sN S 45 = 4096 ∧ ∀ k, k ≠ 7 → sV S k = gvin 0 k) ∧ (∀ x, ¬ gPr Y x) ∧ sN S 18 = sn 0 ∧ sN S 19 = sn 1 ∧ sN S 20 = sn 2 ∧ sZ S 18 = sz 0 ∧ sZ S 19 = sz 1 ∧ sZ S 20 = sz 2 ∧ sV S 7 = nI (sz 0) := by
  have r0 : gNk d F' (a0, q1, 6000, 0) := (h.2.2.2.1 _ (List.mem_of_getElem? (i := 0) rfl)).1
  have r1 : gNk d F' (a2, q3, 1000000, 0) := (h.2.2.2.1 _ (List.mem_of_getElem? (i := 1) rfl)).1
  have r2 : gNk d F' (a4, q5, 1000000, 0) := (h.2.2.2.1 _ (List.mem_of_getElem? (i := 2) rfl)).1
  have r3 : gNk d F' (a6, q7, 1000000, 0) := (h.2.2.2.1 _ (List.mem_of_getElem? (i := 3) rfl)).1
  have r4 : gNk d F' (a8, q9, 1000000, 0) := (h.2.2.2.1 _ (List.mem_of_getElem? (i := 4) rfl)).1
  have r5 : gNk d F' (a10, q11, 1000000, 0) := (h.2.2.2.1 _ (List.mem_of_getElem? (i := 5) rfl)).1
  have r6 : gNk d F' (a12, q13, 1000000, 0) := (h.2.2.2.1 _ (List.mem_of_getElem? (i := 6) rfl)).1
  have r7 : gNk d F' (a14, q15, 1000000, 0) := (h.2.2.2.1 _ (List.mem_of_getElem? (i := 7) rfl)).1
  have r8 : gNk d F' (a16, q17, 1000000, 0) := (h.2.2.2.1 _ (List.mem_of_getElem? (i := 8) rfl)).1
  have r9 : gNk d F' (a18, q19, 1000000, 0) := (h.2.2.2.1 _ (List.mem_of_getElem? (i := 9) rfl)).1
  have r10 : gNk d F' (a20, q21, 1000000, 0) := (h.2.2.2.1 _ (List.mem_of_getElem? (i := 10) rfl)).1
  have r11 : gNk d F' (a22, q23, 1000000, 0) := (h.2.2.2.1 _ (List.mem_of_getElem? (i := 11) rfl)).1
  have r12 : gNk d F' (a24, q25, 1000000, 0) := (h.2.2.2.1 _ (List.mem_of_getElem? (i := 12) rfl)).1
  have r13 : gNk d F' (a26, q27, 1000000, 0) := (h.2.2.2.1 _ (List.mem_of_getElem? (i := 13) rfl)).1
  have r14 : gNk d F' (a28, q29, 1000000, 0) := (h.2.2.2.1 _ (List.mem_of_getElem? (i := 14) rfl)).1
  have r15 : gNk d F' (a30, q31, 1000000, 0) := (h.2.2.2.1 _ (List.mem_of_getElem? (i := 15) rfl)).1
  have r16 : gNk d F' (a32, q33, 1000000, 0) := (h.2.2.2.1 _ (List.mem_of_getElem? (i := 16) rfl)).1
  have r17 : gNk d F' (a34, q35, 1000000, 0) := (h.2.2.2.1 _ (List.mem_of_getElem? (i := 17) rfl)).1
  have r18 : gNk d F' (a36, q37, 1000000, 1) := (h.2.2.2.1 _ (List.mem_of_getElem? (i := 18) rfl)).1
  have r19 : gNk d F' (a38, q39, 1000000, 1) := (h.2.2.2.1 _ (List.mem_of_getElem? (i := 19) rfl)).1
  have r20 : gNk d F' (a40, q41, 1000000, 1) := (h.2.2.2.1 _ (List.mem_of_getElem? (i := 20) rfl)).1
  have r21 : gNk d F' (a42, q43, 1000000, 0) := (h.2.2.2.1 _ (List.mem_of_getElem? (i := 21) rfl)).1
  have r22 : gNk d F' (a44, q45, 1000000, 0) := (h.2.2.2.1 _ (List.mem_of_getElem? (i := 22) rfl)).1
  have r23 : gNk d F' (a46, q47, 1000000, 0) := (h.2.2.2.1 _ (List.mem_of_getElem? (i := 23) rfl)).1
  have r24 : gNk d F' (a48, q49, 1000000, 0) := (h.2.2.2.1 _ (List.mem_of_getElem? (i := 24) rfl)).1
  have r25 : gNk d F' (a50, q51, 1000000, 0) := (h.2.2.2.1 _ (List.mem_of_getElem? (i := 25) rfl)).1
  have r26 : gNk d F' (a52, q53, 1000000, 0) := (h.2.2.2.1 _ (List.mem_of_getElem? (i := 26) rfl)).1
  have r27 : gNk d F' (a54, q55, 1000000, 0) := (h.2.2.2.1 _ (List.mem_of_getElem? (i := 27) rfl)).1
  have r28 : gNk d F' (a56, q57, 1000000, 0) := (h.2.2.2.1 _ (List.mem_of_getElem? (i := 28) rfl)).1
  have r29 : gNk d F' (a58, q59, 1000000, 0) := (h.2.2.2.1 _ (List.mem_of_getElem? (i := 29) rfl)).1
  have r30 : gNk d F' (a60, q61, 1000000, 0) := (h.2.2.2.1 _ (List.mem_of_getElem? (i := 30) rfl)).1
  have r31 : gNk d F' (a62, q63, 1000000, 0) := (h.2.2.2.1 _ (List.mem_of_getElem? (i := 31) rfl)).1
  have r32 : gNk d F' (a64, q65, 1000000, 0) := (h.2.2.2.1 _ (List.mem_of_getElem? (i := 32) rfl)).1
  have r33 : gNk d F' (a66, q67, 1000000, 0) := (h.2.2.2.1 _ (List.mem_of_getElem? (i := 33) rfl)).1
  have r34 : gNk d F' (o68, q69, 6000, 0) := (h.2.2.2.1 _ (List.mem_of_getElem? (i := 34) rfl)).1
  have r35 : gNk d F' (o70, q71, 6000, 0) := (h.2.2.2.1 _ (List.mem_of_getElem? (i := 35) rfl)).1
  have r36 : gNk d F' (o72, q73, 6000, 0) := (h.2.2.2.1 _ (List.mem_of_getElem? (i := 36) rfl)).1
  have r37 : gNk d F' (o74, q75, 6000, 0) := (h.2.2.2.1 _ (List.mem_of_getElem? (i := 37) rfl)).1
  have r38 : gNk d F' (o77, q78, 4096, 0) := (h.2.2.2.1 _ (List.mem_of_getElem? (i := 39) rfl)).1
  have r39 : gNk d F' (o79, q80, 4096, 0) := (h.2.2.2.1 _ (List.mem_of_getElem? (i := 40) rfl)).1
  have r40 : gNk d F' (a81, q82, 100, 0) := (h.2.2.2.1 _ (List.mem_of_getElem? (i := 41) rfl)).1
  have r41 : gNk d F' (a83, q84, 100, 0) := (h.2.2.2.1 _ (List.mem_of_getElem? (i := 42) rfl)).1
  have r42 : gNk d F' (a85, q86, 1000000, 0) := (h.2.2.2.1 _ (List.mem_of_getElem? (i := 43) rfl)).1
  have r43 : gNk d F' (a87, q88, 1000000, 0) := (h.2.2.2.1 _ (List.mem_of_getElem? (i := 44) rfl)).1
  have r44 : gNk d F' (q76, q76, 4, 2) := (h.2.2.2.1 _ (List.mem_of_getElem? (i := 38) rfl)).1
  have r45 : gNk d F' (q89, q89, 4096, 2) := (h.2.2.2.1 _ (List.mem_of_getElem? (i := 45) rfl)).1
  obtain ⟨n18, z18, f18, g18, en18, ez18⟩ : ∃ (n' z' : Nat) (f : Nat → Int32), gIn d F' a36 q37 1000000 n' z' f ∧ n' = sn 0 ∧ z' = sz 0 := by
    obtain ⟨⟨f, g⟩, -⟩ := sT.1 0 (by decide)
    exact ⟨_, _, f, by rw [← se0]; exact g, rfl, rfl⟩
  obtain ⟨n19, z19, f19, g19, en19, ez19⟩ : ∃ (n' z' : Nat) (f : Nat → Int32), gIn d F' a38 q39 1000000 n' z' f ∧ n' = sn 1 ∧ z' = sz 1 := by
    obtain ⟨⟨f, g⟩, -⟩ := sT.1 1 (by decide)
    exact ⟨_, _, f, by rw [← se1]; exact g, rfl, rfl⟩
  obtain ⟨n20, z20, f20, g20, en20, ez20⟩ : ∃ (n' z' : Nat) (f : Nat → Int32), gIn d F' a40 q41 1000000 n' z' f ∧ n' = sn 2 ∧ z' = sz 2 := by
    obtain ⟨⟨f, g⟩, -⟩ := sT.1 2 (by decide)
    exact ⟨_, _, f, by rw [← se2]; exact g, rfl, rfl⟩
  have m1 := h.2.2.2.2.1
  have m2 := h.2.2.2.2.2
  refine ⟨(fun i => [t, o90, o91, o92, o93, o94, o97, o100, o95, o96, o101].getD i 0, fun j => [a0, a2, a4, a6, a8, a10, a12, a14, a16, a18, a20, a22, a24, a26, a28, a30, a32, a34, a36, a38, a40, a42, a44, a46, a48, a50, a52, a54, a56, a58, a60, a62, a64, a66, o68, o70, o72, o74, o77, o79, a81, a83, a85, a87].getD j 0, fun i => [z98, z99].getD i 0, fun _ => False), (fun j => [q1, q3, q5, q7, q9, q11, q13, q15, q17, q19, q21, q23, q25, q27, q29, q31, q33, q35, q37, q39, q41, q43, q45, q47, q49, q51, q53, q55, q57, q59, q61, q63, q65, q67, q69, q71, q73, q75, q78, q80, q82, q84, q86, q88, q76, q89].getD j 0, gvin kn0, gn3 n18 n19 n20, gz3 z18 z19 z20, gf3 f18 f19 f20), rfl, ⟨fun i hi => ?_, fun j hj => ?_, ⟨r44.k2, r45.k2, by show 4096 ≤ 4096; decide, by show 4096 ≤ 65536; decide⟩, ⟨⟨_, k8, fun i hi => ?_⟩, ⟨_, k9, fun i hi => ?_⟩⟩, ⟨fun i j hi hj e => ?_, fun i j hi hj e => ?_⟩, fun k hk => ?_, fun x hx => hx.elim⟩, ⟨fun j hj hc => ?_, rfl, fun k hk => ?_⟩, fun x hx => hx, en18, en19, en20, ez18, ez19, ez20, by show nI kn0 = _; rw [ekn]⟩
  · match i, hi with
    | 0, _ => exact h.1
    | 1, _ => exact k0
    | 2, _ => exact k1
    | 3, _ => exact k2
    | 4, _ => exact k3
    | 5, _ => exact k4
    | 6, _ => exact k7
    | 7, _ => exact k10
    | 8, _ => exact k5
    | 9, _ => exact k6
    | 10, _ => exact k11
  · match j, hj with
    | 0, _ => exact r0.k0
    | 1, _ => exact r1.k0
    | 2, _ => exact r2.k0
    | 3, _ => exact r3.k0
    | 4, _ => exact r4.k0
    | 5, _ => exact r5.k0
    | 6, _ => exact r6.k0
    | 7, _ => exact r7.k0
    | 8, _ => exact r8.k0
    | 9, _ => exact r9.k0
    | 10, _ => exact r10.k0
    | 11, _ => exact r11.k0
    | 12, _ => exact r12.k0
    | 13, _ => exact r13.k0
    | 14, _ => exact r14.k0
    | 15, _ => exact r15.k0
    | 16, _ => exact r16.k0
    | 17, _ => exact r17.k0
    | 18, _ => exact g18
    | 19, _ => exact g19
    | 20, _ => exact g20
    | 21, _ => exact r21.k0
    | 22, _ => exact r22.k0
    | 23, _ => exact r23.k0
    | 24, _ => exact r24.k0
    | 25, _ => exact r25.k0
    | 26, _ => exact r26.k0
    | 27, _ => exact r27.k0
    | 28, _ => exact r28.k0
    | 29, _ => exact r29.k0
    | 30, _ => exact r30.k0
    | 31, _ => exact r31.k0
    | 32, _ => exact r32.k0
    | 33, _ => exact r33.k0
    | 34, _ => exact r34.k0
    | 35, _ => exact r35.k0
    | 36, _ => exact r36.k0
    | 37, _ => exact r37.k0
    | 38, _ => exact r38.k0
    | 39, _ => exact r39.k0
    | 40, _ => exact r40.k0
    | 41, _ => exact r41.k0
    | 42, _ => exact r42.k0
    | 43, _ => exact r43.k0
    | n + 44, hn => exact absurd hn (by omega)
  · match i, hi with
    | 0, _ => rfl
    | 1, _ => rfl
    | 2, _ => rfl
    | 3, _ => rfl
  · match i, hi with
    | 0, _ => rfl
    | 1, _ => rfl
  · have q : ∀ i, i < 44 → (List.map (fun p : Nat × Nat × Nat × Nat => p.1) [(a0, q1, 6000, 0), (a2, q3, 1000000, 0), (a4, q5, 1000000, 0), (a6, q7, 1000000, 0), (a8, q9, 1000000, 0), (a10, q11, 1000000, 0), (a12, q13, 1000000, 0), (a14, q15, 1000000, 0), (a16, q17, 1000000, 0), (a18, q19, 1000000, 0), (a20, q21, 1000000, 0), (a22, q23, 1000000, 0), (a24, q25, 1000000, 0), (a26, q27, 1000000, 0), (a28, q29, 1000000, 0), (a30, q31, 1000000, 0), (a32, q33, 1000000, 0), (a34, q35, 1000000, 0), (a36, q37, 1000000, 1), (a38, q39, 1000000, 1), (a40, q41, 1000000, 1), (a42, q43, 1000000, 0), (a44, q45, 1000000, 0), (a46, q47, 1000000, 0), (a48, q49, 1000000, 0), (a50, q51, 1000000, 0), (a52, q53, 1000000, 0), (a54, q55, 1000000, 0), (a56, q57, 1000000, 0), (a58, q59, 1000000, 0), (a60, q61, 1000000, 0), (a62, q63, 1000000, 0), (a64, q65, 1000000, 0), (a66, q67, 1000000, 0), (o68, q69, 6000, 0), (o70, q71, 6000, 0), (o72, q73, 6000, 0), (o74, q75, 6000, 0), (q76, q76, 4, 2), (o77, q78, 4096, 0), (o79, q80, 4096, 0), (a81, q82, 100, 0), (a83, q84, 100, 0), (a85, q86, 1000000, 0), (a87, q88, 1000000, 0), (q89, q89, 4096, 2)])[gix i]? = some ([a0, a2, a4, a6, a8, a10, a12, a14, a16, a18, a20, a22, a24, a26, a28, a30, a32, a34, a36, a38, a40, a42, a44, a46, a48, a50, a52, a54, a56, a58, a60, a62, a64, a66, o68, o70, o72, o74, o77, o79, a81, a83, a85, a87].getD i 0) := fun i hi => by
      match i, hi with
      | 0, _ => rfl
      | 1, _ => rfl
      | 2, _ => rfl
      | 3, _ => rfl
      | 4, _ => rfl
      | 5, _ => rfl
      | 6, _ => rfl
      | 7, _ => rfl
      | 8, _ => rfl
      | 9, _ => rfl
      | 10, _ => rfl
      | 11, _ => rfl
      | 12, _ => rfl
      | 13, _ => rfl
      | 14, _ => rfl
      | 15, _ => rfl
      | 16, _ => rfl
      | 17, _ => rfl
      | 18, _ => rfl
      | 19, _ => rfl
      | 20, _ => rfl
      | 21, _ => rfl
      | 22, _ => rfl
      | 23, _ => rfl
      | 24, _ => rfl
      | 25, _ => rfl
      | 26, _ => rfl
      | 27, _ => rfl
      | 28, _ => rfl
      | 29, _ => rfl
      | 30, _ => rfl
      | 31, _ => rfl
      | 32, _ => rfl
      | 33, _ => rfl
      | 34, _ => rfl
      | 35, _ => rfl
      | 36, _ => rfl
      | 37, _ => rfl
      | 38, _ => rfl
      | 39, _ => rfl
      | 40, _ => rfl
      | 41, _ => rfl
      | 42, _ => rfl
      | 43, _ => rfl
      | n + 44, hn => exact absurd hn (by omega)
    have e2 : [a0, a2, a4, a6, a8, a10, a12, a14, a16, a18, a20, a22, a24, a26, a28, a30, a32, a34, a36, a38, a40, a42, a44, a46, a48, a50, a52, a54, a56, a58, a60, a62, a64, a66, o68, o70, o72, o74, o77, o79, a81, a83, a85, a87].getD i 0 = [a0, a2, a4, a6, a8, a10, a12, a14, a16, a18, a20, a22, a24, a26, a28, a30, a32, a34, a36, a38, a40, a42, a44, a46, a48, a50, a52, a54, a56, a58, a60, a62, a64, a66, o68, o70, o72, o74, o77, o79, a81, a83, a85, a87].getD j 0 := e
    exact gix_inj (by omega) (by omega) (gNdup m1 (q i hi) (by rw [e2]; exact q j hj))
  · have q : ∀ i, i < 46 → (List.map (fun p : Nat × Nat × Nat × Nat => p.2.1) [(a0, q1, 6000, 0), (a2, q3, 1000000, 0), (a4, q5, 1000000, 0), (a6, q7, 1000000, 0), (a8, q9, 1000000, 0), (a10, q11, 1000000, 0), (a12, q13, 1000000, 0), (a14, q15, 1000000, 0), (a16, q17, 1000000, 0), (a18, q19, 1000000, 0), (a20, q21, 1000000, 0), (a22, q23, 1000000, 0), (a24, q25, 1000000, 0), (a26, q27, 1000000, 0), (a28, q29, 1000000, 0), (a30, q31, 1000000, 0), (a32, q33, 1000000, 0), (a34, q35, 1000000, 0), (a36, q37, 1000000, 1), (a38, q39, 1000000, 1), (a40, q41, 1000000, 1), (a42, q43, 1000000, 0), (a44, q45, 1000000, 0), (a46, q47, 1000000, 0), (a48, q49, 1000000, 0), (a50, q51, 1000000, 0), (a52, q53, 1000000, 0), (a54, q55, 1000000, 0), (a56, q57, 1000000, 0), (a58, q59, 1000000, 0), (a60, q61, 1000000, 0), (a62, q63, 1000000, 0), (a64, q65, 1000000, 0), (a66, q67, 1000000, 0), (o68, q69, 6000, 0), (o70, q71, 6000, 0), (o72, q73, 6000, 0), (o74, q75, 6000, 0), (q76, q76, 4, 2), (o77, q78, 4096, 0), (o79, q80, 4096, 0), (a81, q82, 100, 0), (a83, q84, 100, 0), (a85, q86, 1000000, 0), (a87, q88, 1000000, 0), (q89, q89, 4096, 2)])[gix i]? = some ([q1, q3, q5, q7, q9, q11, q13, q15, q17, q19, q21, q23, q25, q27, q29, q31, q33, q35, q37, q39, q41, q43, q45, q47, q49, q51, q53, q55, q57, q59, q61, q63, q65, q67, q69, q71, q73, q75, q78, q80, q82, q84, q86, q88, q76, q89].getD i 0) := fun i hi => by
      match i, hi with
      | 0, _ => rfl
      | 1, _ => rfl
      | 2, _ => rfl
      | 3, _ => rfl
      | 4, _ => rfl
      | 5, _ => rfl
      | 6, _ => rfl
      | 7, _ => rfl
      | 8, _ => rfl
      | 9, _ => rfl
      | 10, _ => rfl
      | 11, _ => rfl
      | 12, _ => rfl
      | 13, _ => rfl
      | 14, _ => rfl
      | 15, _ => rfl
      | 16, _ => rfl
      | 17, _ => rfl
      | 18, _ => rfl
      | 19, _ => rfl
      | 20, _ => rfl
      | 21, _ => rfl
      | 22, _ => rfl
      | 23, _ => rfl
      | 24, _ => rfl
      | 25, _ => rfl
      | 26, _ => rfl
      | 27, _ => rfl
      | 28, _ => rfl
      | 29, _ => rfl
      | 30, _ => rfl
      | 31, _ => rfl
      | 32, _ => rfl
      | 33, _ => rfl
      | 34, _ => rfl
      | 35, _ => rfl
      | 36, _ => rfl
      | 37, _ => rfl
      | 38, _ => rfl
      | 39, _ => rfl
      | 40, _ => rfl
      | 41, _ => rfl
      | 42, _ => rfl
      | 43, _ => rfl
      | 44, _ => rfl
      | 45, _ => rfl
      | n + 46, hn => exact absurd hn (by omega)
    have e2 : [q1, q3, q5, q7, q9, q11, q13, q15, q17, q19, q21, q23, q25, q27, q29, q31, q33, q35, q37, q39, q41, q43, q45, q47, q49, q51, q53, q55, q57, q59, q61, q63, q65, q67, q69, q71, q73, q75, q78, q80, q82, q84, q86, q88, q76, q89].getD i 0 = [q1, q3, q5, q7, q9, q11, q13, q15, q17, q19, q21, q23, q25, q27, q29, q31, q33, q35, q37, q39, q41, q43, q45, q47, q49, q51, q53, q55, q57, q59, q61, q63, q65, q67, q69, q71, q73, q75, q78, q80, q82, q84, q86, q88, q76, q89].getD j 0 := e
    exact gix_inj (by omega) (by omega) (gNdup m2 (q i hi) (by rw [e2]; exact q j hj))
  · simp only [gbo, List.mem_cons, List.not_mem_nil, or_false] at hk
    rcases hk with rfl | rfl | rfl | rfl | rfl <;> exact Or.inl rfl
  · match j, hj, hc with
    | 0, _, _ => exact ⟨rfl, rfl⟩
    | 1, _, _ => exact ⟨rfl, rfl⟩
    | 2, _, _ => exact ⟨rfl, rfl⟩
    | 3, _, _ => exact ⟨rfl, rfl⟩
    | 4, _, _ => exact ⟨rfl, rfl⟩
    | 5, _, _ => exact ⟨rfl, rfl⟩
    | 6, _, _ => exact ⟨rfl, rfl⟩
    | 7, _, _ => exact ⟨rfl, rfl⟩
    | 8, _, _ => exact ⟨rfl, rfl⟩
    | 9, _, _ => exact ⟨rfl, rfl⟩
    | 10, _, _ => exact ⟨rfl, rfl⟩
    | 11, _, _ => exact ⟨rfl, rfl⟩
    | 12, _, _ => exact ⟨rfl, rfl⟩
    | 13, _, _ => exact ⟨rfl, rfl⟩
    | 14, _, _ => exact ⟨rfl, rfl⟩
    | 15, _, _ => exact ⟨rfl, rfl⟩
    | 16, _, _ => exact ⟨rfl, rfl⟩
    | 17, _, _ => exact ⟨rfl, rfl⟩
    | 18, _, hc => exact absurd hc (by decide)
    | 19, _, hc => exact absurd hc (by decide)
    | 20, _, hc => exact absurd hc (by decide)
    | 21, _, _ => exact ⟨rfl, rfl⟩
    | 22, _, _ => exact ⟨rfl, rfl⟩
    | 23, _, _ => exact ⟨rfl, rfl⟩
    | 24, _, _ => exact ⟨rfl, rfl⟩
    | 25, _, _ => exact ⟨rfl, rfl⟩
    | 26, _, _ => exact ⟨rfl, rfl⟩
    | 27, _, _ => exact ⟨rfl, rfl⟩
    | 28, _, _ => exact ⟨rfl, rfl⟩
    | 29, _, _ => exact ⟨rfl, rfl⟩
    | 30, _, _ => exact ⟨rfl, rfl⟩
    | 31, _, _ => exact ⟨rfl, rfl⟩
    | 32, _, _ => exact ⟨rfl, rfl⟩
    | 33, _, _ => exact ⟨rfl, rfl⟩
    | 34, _, _ => exact ⟨rfl, rfl⟩
    | 35, _, _ => exact ⟨rfl, rfl⟩
    | 36, _, _ => exact ⟨rfl, rfl⟩
    | 37, _, _ => exact ⟨rfl, rfl⟩
    | 38, _, _ => exact ⟨rfl, rfl⟩
    | 39, _, _ => exact ⟨rfl, rfl⟩
    | 40, _, _ => exact ⟨rfl, rfl⟩
    | 41, _, _ => exact ⟨rfl, rfl⟩
    | 42, _, _ => exact ⟨rfl, rfl⟩
    | 43, _, _ => exact ⟨rfl, rfl⟩
    | n + 44, hn, _ => exact absurd hn (by omega)
  · show gvin kn0 k = gvin 0 k
    unfold gvin
    split <;> first | rfl | exact absurd rfl hk
/-- the class's cells, as they lie -/
def gCl (Y : gYt) (S : gSt) (x : Nat) : Prop := (∃ i, i < 11 ∧ x = gO' Y i) ∨ (∃ j, j < 44 ∧ x = gA' Y j) ∨ (∃ j, j < 46 ∧ x = sQ S j) ∨ ∃ i, i < 2 ∧ x = gZ' Y i
theorem gWT.told {d : gD} {Y : gYt} {F : gM} {S : gSt} (h : gWT d Y F S) {x : Nat} (hx : gCl Y S x) : F x ≠ g0 := by
  rcases hx with ⟨i, hi, rfl⟩ | ⟨j, hj, rfl⟩ | ⟨j, hj, rfl⟩ | ⟨i, hi, rfl⟩
  · exact h.o_n hi
  · exact (h.r j hj).na.1
  · obtain ⟨n, f, e⟩ := h.q_i hj
    rw [e]; exact g0_a
  · obtain ⟨⟨f, e, -⟩, f2, e2, -⟩ := h.2.2.2.1
    match i, hi with
    | 0, _ => rw [e]; exact g0_a
    | 1, _ => rw [e2]; exact g0_a
/-- the class's cells stay: its state stays; and others' cells may be named anew -/
theorem gWT.kept {d : gD} {Y : gYt} {F F' : gM} {S : gSt} (h : gWT d Y F S) (hk : ∀ x, gCl Y S x → F' x = F x) (P : Nat → Prop) (hP : ∀ x, P x → F' x ≠ g0 ∧ (∀ i, i < 11 → x ≠ gO' Y i) ∧ (∀ j, j < 44 → x ≠ gA' Y j) ∧ ∀ j, j < 46 → x ≠ sQ S j) : gWT d (Y.1, Y.2.1, Y.2.2.1, P) F' S := by
  refine ⟨fun i hi => (hk _ (Or.inl ⟨i, hi, rfl⟩)).trans (h.o i hi), fun j hj => (h.r j hj).kept (hk _ (Or.inr (Or.inl ⟨j, hj, rfl⟩))) (hk _ (Or.inr (Or.inr (Or.inl ⟨j, by omega, rfl⟩)))), ⟨(hk _ (Or.inr (Or.inr (Or.inl ⟨44, by omega, rfl⟩)))).trans h.p, (hk _ (Or.inr (Or.inr (Or.inl ⟨45, by omega, rfl⟩)))).trans h.c, h.2.2.1.2.2⟩, ?_, h.2.2.2.2.1, h.2.2.2.2.2.1, hP⟩
  obtain ⟨⟨f, e, e1⟩, f2, e2, e3⟩ := h.2.2.2.1
  exact ⟨⟨f, (hk _ (Or.inr (Or.inr (Or.inr ⟨0, by omega, rfl⟩)))).trans e, e1⟩, f2, (hk _ (Or.inr (Or.inr (Or.inr ⟨1, by omega, rfl⟩)))).trans e2, e3⟩
/-- the class's state at the start -/
def lSt (S : gSt) : Prop := (∀ j, j < 44 → (j == 18 || j == 19 || j == 20) = false → sZ S j = 0 ∧ sN S j = 16) ∧ sN S 45 = 4096 ∧ (∀ k, k ≠ 7 → sV S k = gvin 0 k) ∧ (sZ S 18 ≤ 378 ∧ sZ S 19 ≤ 378 ∧ sZ S 20 ≤ 378) ∧ (sN S 18 ≤ 16 + 2 * sZ S 18 ∧ sN S 19 ≤ 16 + 2 * sZ S 19 ∧ sN S 20 ≤ 16 + 2 * sZ S 20) ∧ sV S 7 = nI (sZ S 18)
theorem lSt_mk {S : gSt} {sn sz : Nat → Nat} (hzn : ∀ j, j < 44 → (j == 18 || j == 19 || j == 20) = false → sZ S j = 0 ∧ sN S j = 16) (hn45 : sN S 45 = 4096) (hv : ∀ k, k ≠ 7 → sV S k = gvin 0 k) (n18 : sN S 18 = sn 0) (n19 : sN S 19 = sn 1) (n20 : sN S 20 = sn 2) (y18 : sZ S 18 = sz 0) (y19 : sZ S 19 = sz 1) (y20 : sZ S 20 = sz 2) (v7 : sV S 7 = nI (sz 0)) (t : ∀ i, i < 3 → sn i ≤ 16 + 2 * sz i) (z0 : sz 0 ≤ 378) (z1 : sz 1 ≤ 378) (z2 : sz 2 ≤ 378) : lSt S ∧ sN S 18 + sN S 19 + sN S 20 = sn 0 + sn 1 + sn 2 := by
  have t0 := t 0 (by decide)
  have t1 := t 1 (by decide)
  have t2 := t 2 (by decide)
  exact ⟨⟨hzn, hn45, hv, ⟨by omega, by omega, by omega⟩, ⟨by omega, by omega, by omega⟩, by rw [v7, y18]⟩, by omega⟩
