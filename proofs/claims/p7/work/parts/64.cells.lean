theorem u45_n {S : gSt} {q N : Nat} {g : Nat → Int32} (j : Nat) (hj : j ≠ 45) : sN (u45 S q N g) j = sN S j := va_up_ne _ _ hj
theorem hR_45 {S : gSt} {q N : Nat} {g : Nat → Int32} : hRc (u45 S q N g) + sN S 45 = hRc S + N ∧ hRs (u45 S q N g) + 2 * sN S 45 = hRs S + 2 * N := by
  have e : ∀ j, j < 44 → sN (u45 S q N g) j = sN S j := fun j hj => va_up_ne _ _ (by omega)
  have e5 : sN (u45 S q N g) 45 = N := va_up_self S.2.2.1 45 N
  unfold hRc hRs
  rw [e5, gSum_eq (f := fun j => gct (gmo j) (sN (u45 S q N g) j)) (g := fun j => gct (gmo j) (sN S j)) (fun i hi => by show gct (gmo i) (sN (u45 S q N g) i) = gct (gmo i) (sN S i); rw [e i hi]), gSum_eq (f := fun j => gpt (gmo j) (sN (u45 S q N g) j)) (g := fun j => gpt (gmo j) (sN S j)) (fun i hi => by show gpt (gmo i) (sN (u45 S q N g) i) = gpt (gmo i) (sN S i); rw [e i hi])]
  omega
theorem gPsi_45 {S : gSt} {q N : Nat} {g : Nat → Int32} : gPsi (u45 S q N g) = gPsi S := gSum_eq (fun i hi => by
  show gps (sN (u45 S q N g) (1 + i)) (sZ S (1 + i)) = gps (sN S (1 + i)) (sZ S (1 + i))
  rw [show sN (u45 S q N g) (1 + i) = sN S (1 + i) from va_up_ne _ _ (by omega)])
theorem gSm_45 {S : gSt} {q N : Nat} {g : Nat → Int32} : gSm S (u45 S q N g) [45] [] := ⟨fun i hi => by
  have h : i ≠ 45 := fun e => hi (by rw [e]; exact List.mem_singleton.mpr rfl)
  exact ⟨va_up_ne _ _ h, va_up_ne _ _ h, rfl, va_up_ne _ _ h⟩, fun _ _ => rfl⟩
theorem gSz.cells {S : gSt} (h : gSz S) {q N : Nat} {g : Nat → Int32} (hN : N ≤ 65536) : gSz (u45 S q N g) := by
  obtain ⟨h1, h2, h3, h4⟩ := h
  refine ⟨fun j hj => ?_, ?_, ?_, ?_⟩
  · rw [show sN (u45 S q N g) j = sN S j from va_up_ne _ _ (by omega)]
    exact h1 j hj
  · rw [u45_n 43 (by decide)]
    exact h2
  · rw [show sN (u45 S q N g) 45 = N from va_up_self S.2.2.1 45 N]
    exact hN
  · rw [gPsi_45]
    exact h4
theorem hi_newc {own : String} {cc : ByteArray} {nL : Nat} {rt : Option FieldType} {nm : String} {R : Room} {d : gD} {b : Nat} {X : gX} {Q : State → Prop} {F : gM} {k n pc : Nat} {lv : List (Option Value)} {st : List Value} {Y : gYt} {c : Nat × Nat} {S : gSt} (hC : gC own cc nL rt nm R d b X) (hr : hRm X b) (ho : hOk X b k n) (hi : hI d b Y c (F, k, n) S) {v : Int32} {N idx : Nat} (ev : v = nI N) (hN : 2 * sN S 45 ≤ N) (hN2 : N ≤ 65536) (hps : gPsi S ≤ gAm) (hl : gFL own idx 5 5 (.array .int) false) (d1 : decode cc pc = .ok (.newarray .int, 2)) (d2 : decode cc (pc + 2) = .ok (.putfield idx, 3))
    (kk : ∀ (F' : gM) (S' : gSt), hI d b Y c (F', k + 1, n + N) S' → hOk X b (k + 1) (n + N) → gKp Y F F' → gSm S S' [45] [] → sN S' 45 = N → gPsi S' = gPsi S → sZ S' 43 = sZ S 43 → hG X d b Q F' (k + 1) (n + N) (pc + 2 + 3) lv st) : hG X d b Q F k n pc lv (.int v :: .ref (gO' Y 7) :: st) := by
  subst ev
  obtain ⟨w1, w2, w3, w4, w5, w6⟩ := id hi
  have n45 := w1.2.2.1.2.2.1
  obtain ⟨r1, r2⟩ := ((hi.sz hps).cells (q := 0) (g := fun _ => 0) hN2).room
  obtain ⟨s1, s2⟩ := hR_45 (S := S) (q := 0) (N := N) (g := fun _ => 0)
  have w3' : k ≤ c.1 + hRc S := w3
  have w4' : n ≤ c.2 + hRs S := w4
  have hk : k + 1 ≤ gKm b := by omega
  have hs : n + N ≤ gNm := by omega
  refine h_newa (atype := .int) (N := N) (a0 := (N, .inl (fun _ => 0))) hC hr ho 0 kw_288 rfl (by decide) (fun _ => rfl) (nI_pos (by omega)) (nI_clamp (by omega)) (by show N * 4 ≤ 536870912; omega) hk hs d1 (fun q hq ho' => ?_)
  refine h_vF (fun F1 h1 => ?_)
  have f7 : F1 (gO' Y 7) = .inr (5, gfs Y S 7) := by rw [h1, va_up_ne _ _ (fun e => w1.o_n (i := 7) (by decide) (by rw [e]; exact hq))]; exact w1.o 7 (by decide)
  refine h_put hC hl f7 rfl rfl (Nat.le_of_ble_eq_true rfl) d2 (h_vF (fun F2 h2 => ?_))
  obtain ⟨y1, y2⟩ := w1.new45 (q := q) (N := N) (g := fun _ => 0) (F' := F2) hq ⟨by omega, hN2⟩ (by rw [h2, h1]; rfl)
  obtain ⟨t1, t2⟩ := hR_45 (S := S) (q := q) (N := N) (g := fun _ => 0)
  exact kk F2 (u45 S q N (fun _ => 0)) ⟨y1, by rw [u45_n 43 (by decide)]; exact w2, by show k + 1 ≤ _; omega, by show n + N ≤ _; omega, w5, w6⟩ ho' y2 gSm_45 (va_up_self S.2.2.1 45 N) gPsi_45 rfl
/-- the store's lengths -/
def gPw (N : Nat) : Prop := N = 4096 ∨ N = 8192 ∨ N = 16384 ∨ N = 32768 ∨ N = 65536
theorem gPw_next {a N : Nat} (ha : gPw a) (hN : gPw N) (h : a < N) : 2 * a ≤ N ∧ N ≤ 65536 := by
  unfold gPw at ha hN
  omega
