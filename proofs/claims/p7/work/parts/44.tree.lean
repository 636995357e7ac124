theorem hnb {x : Int32} (h : x = 0 ∨ x = 1) : narrow .boolean (.int x) = .int x := by
  rcases h with rfl | rfl <;> rfl
theorem hi_putx {own : String} {cc : ByteArray} {nL : Nat} {rt : Option FieldType} {nm : String} {R : Room} {d : gD} {b : Nat} {X : gX} {Q : State → Prop} {F : gM} {k n pc : Nat} {lv : List (Option Value)} {st : List Value} {Y : gYt} {c : Nat × Nat} {S : gSt} (hC : gC own cc nL rt nm R d b X) (hi : hI d b Y c (F, k, n) S) {i idx kx jj : Nat} {ty : FieldType} {x : Int32} {v0 : Value} {fs : List Value} (hi1 : i < 11) (hl : gFL own idx (gci i) jj ty false) (hF : gfs Y S i = v0 :: fs) (hnr : narrow ty (.int x) = .int x) (hfit : fits ty (.int x) = true) (hjj : jj < (v0 :: fs).length) (hset : (v0 :: fs).set jj (.int x) = gfs Y (uV S kx x) i) (hsame : ∀ i', i' < 11 → i' ≠ i → gfs Y (uV S kx x) i' = gfs Y S i') (hb : kx ∈ gbo → x = 0 ∨ x = 1) (hdg : decode cc pc = .ok (.putfield idx, 3))
    (kk : ∀ (F' : gM) (S' : gSt), hI d b Y c (F', k, n) S' → gKp Y F F' → gSm S S' [] [kx] → sV S' kx = x → gPsi S' = gPsi S → hG X d b Q F' k n (pc + 3) lv st) : hG X d b Q F k n pc lv (.int x :: .ref (gO' Y i) :: st) :=
  hi_put hC hi hi1 hl hF hnr hfit hjj hset hsame hb hdg (fun F' h1 h2 => kk F' (uV S kx x) h1 h2 gSm_uV uV_self rfl)
/-- a node more -/
def gNv (x y z : Int32) : Nat → Int32
  | 7 => x
  | 8 => y
  | 9 => z
  | _ => 0
def gNd (S S' : gSt) (x y z : Int32) : Prop := ∀ j, 7 ≤ j → j < 14 → sZ S j < 1000000 → sZ S' j = sZ S j + 1 ∧ (∀ i, i < sZ S j → sF S' j i = sF S j i) ∧ sF S' j (sZ S j) = gNv x y z j
theorem gNd_row {S S1 S2 S' : gSt} {j : Nat} {x : Int32} (h1 : sZ S1 j = sZ S j) (h2 : sF S1 j = sF S j) (ha : gAd S1 S2 j x) (hm : gmo j = 1000000) (h3 : sZ S' j = sZ S2 j) (h4 : sF S' j = sF S2 j) (hz : sZ S j < 1000000) : sZ S' j = sZ S j + 1 ∧ (∀ i, i < sZ S j → sF S' j i = sF S j i) ∧ sF S' j (sZ S j) = x := by
  obtain ⟨e1, e2, e3⟩ := ha.1 (by rw [h1, hm]; exact hz)
  rw [h1] at e1 e2 e3
  rw [h3, h4]
  exact ⟨e1, fun i hi => by rw [e2 i hi, h2], e3⟩
theorem dX10_node_0 : decode cX10_node 0 = .ok (.aload_n 0, 1) := by decide +kernel
theorem dX10_node_1 : decode cX10_node 1 = .ok (.getfield 15, 3) := by decide +kernel
theorem dX10_node_4 : decode cX10_node 4 = .ok (.iload_n 1, 1) := by decide +kernel
theorem dX10_node_5 : decode cX10_node 5 = .ok (.invokevirtual 46, 3) := by decide +kernel
theorem dX10_node_8 : decode cX10_node 8 = .ok (.aload_n 0, 1) := by decide +kernel
theorem dX10_node_9 : decode cX10_node 9 = .ok (.getfield 21, 3) := by decide +kernel
theorem dX10_node_12 : decode cX10_node 12 = .ok (.iload_n 2, 1) := by decide +kernel
theorem dX10_node_13 : decode cX10_node 13 = .ok (.invokevirtual 46, 3) := by decide +kernel
theorem dX10_node_16 : decode cX10_node 16 = .ok (.aload_n 0, 1) := by decide +kernel
theorem dX10_node_17 : decode cX10_node 17 = .ok (.getfield 24, 3) := by decide +kernel
theorem dX10_node_20 : decode cX10_node 20 = .ok (.iload_n 3, 1) := by decide +kernel
theorem dX10_node_21 : decode cX10_node 21 = .ok (.invokevirtual 46, 3) := by decide +kernel
theorem dX10_node_24 : decode cX10_node 24 = .ok (.aload_n 0, 1) := by decide +kernel
theorem dX10_node_25 : decode cX10_node 25 = .ok (.getfield 27, 3) := by decide +kernel
theorem dX10_node_28 : decode cX10_node 28 = .ok (.iconst 0, 1) := by decide +kernel
theorem dX10_node_29 : decode cX10_node 29 = .ok (.invokevirtual 46, 3) := by decide +kernel
theorem dX10_node_32 : decode cX10_node 32 = .ok (.aload_n 0, 1) := by decide +kernel
theorem dX10_node_33 : decode cX10_node 33 = .ok (.getfield 30, 3) := by decide +kernel
theorem dX10_node_36 : decode cX10_node 36 = .ok (.iconst 0, 1) := by decide +kernel
theorem dX10_node_37 : decode cX10_node 37 = .ok (.invokevirtual 46, 3) := by decide +kernel
theorem dX10_node_40 : decode cX10_node 40 = .ok (.aload_n 0, 1) := by decide +kernel
theorem dX10_node_41 : decode cX10_node 41 = .ok (.getfield 33, 3) := by decide +kernel
theorem dX10_node_44 : decode cX10_node 44 = .ok (.iconst 0, 1) := by decide +kernel
theorem dX10_node_45 : decode cX10_node 45 = .ok (.invokevirtual 46, 3) := by decide +kernel
theorem dX10_node_48 : decode cX10_node 48 = .ok (.aload_n 0, 1) := by decide +kernel
theorem dX10_node_49 : decode cX10_node 49 = .ok (.getfield 36, 3) := by decide +kernel
theorem dX10_node_52 : decode cX10_node 52 = .ok (.iconst 0, 1) := by decide +kernel
theorem dX10_node_53 : decode cX10_node 53 = .ok (.invokevirtual 46, 3) := by decide +kernel
theorem dX10_node_56 : decode cX10_node 56 = .ok (.aload_n 0, 1) := by decide +kernel
theorem dX10_node_57 : decode cX10_node 57 = .ok (.getfield 15, 3) := by decide +kernel
theorem dX10_node_60 : decode cX10_node 60 = .ok (.invokevirtual 49, 3) := by decide +kernel
theorem dX10_node_63 : decode cX10_node 63 = .ok (.iconst 1, 1) := by decide +kernel
theorem dX10_node_64 : decode cX10_node 64 = .ok (.isub, 1) := by decide +kernel
theorem dX10_node_65 : decode cX10_node 65 = .ok (.ireturn, 1) := by decide +kernel
set_option maxHeartbeats 4000000 in
set_option maxRecDepth 100000 in
theorem s_T_node (l : Launch) (d : gD) (b : Nat) (Y : gYt) (c : Nat × Nat) (F : gM) (k n : Nat) {S : gSt} (hi : hI d b Y c (F, k, n) S) (hA : gPsi S + 7 ≤ gAm) (x y z : Int32) : hMi l d b yX10_node cX10_node 4 .int 3 k n F [.ref (gO' Y 2), .int x, .int y, .int z] (fun r u => ∃ S', hI d b Y c u S' ∧ gKp Y F u.1 ∧ gSm S S' [7, 8, 9, 10, 11, 12, 13] [] ∧ gPsi S' ≤ gPsi S + 7 ∧ gNd S S' x y z ∧ r = nI (sZ S' 7) - 1) := by
  intro mc ms
  refine hM_of2 rfl (nL := 4) (Nat.le_of_ble_eq_true rfl) ?_
  intro X hX hC hr ho; subst hX
  show hG X d b _ F k n 0 [some (.ref (gO' Y 2)), some (.int x), some (.int y), some (.int z)] []
  refine h_aload_n hC dX10_node_0 rfl ?_
  refine h_get hC fl_X10_15 (hi.1.o 2 (by decide)) rfl dX10_node_1 ?_
  refine h_iload_n hC dX10_node_4 rfl ?_
  refine hi_add (j := 7) hC hr ho hi (by decide) ⟨fun _ => by omega, fun q => absurd q (by decide), by omega⟩ cl_X10_46 rfl (Nat.le_of_ble_eq_true rfl) (hFr_of (Nat.le_of_ble_eq_true rfl) (Nat.le_of_ble_eq_true rfl)) dX10_node_5 (fun u8 S2 I3 o7 K4 s5 a6 => ?_)
  have m9 : gSm S S2 [7, 8, 9, 10, 11, 12, 13] [] := gSm.wk s5 _ _ rfl rfl
  have Pa6 : gPsi S2 ≤ gPsi S + 1 := a6.2.2.1 ⟨by decide, by decide⟩
  refine h_aload_n hC dX10_node_8 rfl ?_
  refine h_get hC fl_X10_21 (I3.1.o 2 (by decide)) rfl dX10_node_9 ?_
  refine h_iload_n hC dX10_node_12 rfl ?_
  refine hi_add (j := 8) hC hr o7 I3 (by decide) ⟨fun _ => by omega, fun q => absurd q (by decide), by omega⟩ cl_X10_46 rfl (Nat.le_of_ble_eq_true rfl) (hFr_of (Nat.le_of_ble_eq_true rfl) (Nat.le_of_ble_eq_true rfl)) dX10_node_13 (fun u18 S12 I13 o17 K14 s15 a16 => ?_)
  have m19 : gSm S S12 [7, 8, 9, 10, 11, 12, 13] [] := m9.tr s15 _ _ rfl rfl
  have K20 := K4.tr K14
  have Pa16 : gPsi S12 ≤ gPsi S2 + 1 := a16.2.2.1 ⟨by decide, by decide⟩
  refine h_aload_n hC dX10_node_16 rfl ?_
  refine h_get hC fl_X10_24 (I13.1.o 2 (by decide)) rfl dX10_node_17 ?_
  refine h_iload_n hC dX10_node_20 rfl ?_
  refine hi_add (j := 9) hC hr o17 I13 (by decide) ⟨fun _ => by omega, fun q => absurd q (by decide), by omega⟩ cl_X10_46 rfl (Nat.le_of_ble_eq_true rfl) (hFr_of (Nat.le_of_ble_eq_true rfl) (Nat.le_of_ble_eq_true rfl)) dX10_node_21 (fun u28 S22 I23 o27 K24 s25 a26 => ?_)
  have m29 : gSm S S22 [7, 8, 9, 10, 11, 12, 13] [] := m19.tr s25 _ _ rfl rfl
  have K30 := K20.tr K24
  have Pa26 : gPsi S22 ≤ gPsi S12 + 1 := a26.2.2.1 ⟨by decide, by decide⟩
  refine h_aload_n hC dX10_node_24 rfl ?_
  refine h_get hC fl_X10_27 (I23.1.o 2 (by decide)) rfl dX10_node_25 ?_
  refine h_iconst (v := 0) hC dX10_node_28 rfl ?_
  refine hi_add (j := 10) hC hr o27 I23 (by decide) ⟨fun _ => by omega, fun q => absurd q (by decide), by omega⟩ cl_X10_46 rfl (Nat.le_of_ble_eq_true rfl) (hFr_of (Nat.le_of_ble_eq_true rfl) (Nat.le_of_ble_eq_true rfl)) dX10_node_29 (fun u38 S32 I33 o37 K34 s35 a36 => ?_)
  have m39 : gSm S S32 [7, 8, 9, 10, 11, 12, 13] [] := m29.tr s35 _ _ rfl rfl
  have K40 := K30.tr K34
  have Pa36 : gPsi S32 ≤ gPsi S22 + 1 := a36.2.2.1 ⟨by decide, by decide⟩
  refine h_aload_n hC dX10_node_32 rfl ?_
  refine h_get hC fl_X10_30 (I33.1.o 2 (by decide)) rfl dX10_node_33 ?_
  refine h_iconst (v := 0) hC dX10_node_36 rfl ?_
  refine hi_add (j := 11) hC hr o37 I33 (by decide) ⟨fun _ => by omega, fun q => absurd q (by decide), by omega⟩ cl_X10_46 rfl (Nat.le_of_ble_eq_true rfl) (hFr_of (Nat.le_of_ble_eq_true rfl) (Nat.le_of_ble_eq_true rfl)) dX10_node_37 (fun u48 S42 I43 o47 K44 s45 a46 => ?_)
  have m49 : gSm S S42 [7, 8, 9, 10, 11, 12, 13] [] := m39.tr s45 _ _ rfl rfl
  have K50 := K40.tr K44
  have Pa46 : gPsi S42 ≤ gPsi S32 + 1 := a46.2.2.1 ⟨by decide, by decide⟩
  refine h_aload_n hC dX10_node_40 rfl ?_
  refine h_get hC fl_X10_33 (I43.1.o 2 (by decide)) rfl dX10_node_41 ?_
  refine h_iconst (v := 0) hC dX10_node_44 rfl ?_
  refine hi_add (j := 12) hC hr o47 I43 (by decide) ⟨fun _ => by omega, fun q => absurd q (by decide), by omega⟩ cl_X10_46 rfl (Nat.le_of_ble_eq_true rfl) (hFr_of (Nat.le_of_ble_eq_true rfl) (Nat.le_of_ble_eq_true rfl)) dX10_node_45 (fun u58 S52 I53 o57 K54 s55 a56 => ?_)
  have m59 : gSm S S52 [7, 8, 9, 10, 11, 12, 13] [] := m49.tr s55 _ _ rfl rfl
  have K60 := K50.tr K54
  have Pa56 : gPsi S52 ≤ gPsi S42 + 1 := a56.2.2.1 ⟨by decide, by decide⟩
  refine h_aload_n hC dX10_node_48 rfl ?_
  refine h_get hC fl_X10_36 (I53.1.o 2 (by decide)) rfl dX10_node_49 ?_
  refine h_iconst (v := 0) hC dX10_node_52 rfl ?_
  refine hi_add (j := 13) hC hr o57 I53 (by decide) ⟨fun _ => by omega, fun q => absurd q (by decide), by omega⟩ cl_X10_46 rfl (Nat.le_of_ble_eq_true rfl) (hFr_of (Nat.le_of_ble_eq_true rfl) (Nat.le_of_ble_eq_true rfl)) dX10_node_53 (fun u68 S62 I63 o67 K64 s65 a66 => ?_)
  have m69 : gSm S S62 [7, 8, 9, 10, 11, 12, 13] [] := m59.tr s65 _ _ rfl rfl
  have K70 := K60.tr K64
  have Pa66 : gPsi S62 ≤ gPsi S52 + 1 := a66.2.2.1 ⟨by decide, by decide⟩
  refine h_aload_n hC dX10_node_56 rfl ?_
  refine h_get hC fl_X10_15 (I63.1.o 2 (by decide)) rfl dX10_node_57 ?_
  refine hi_size (j := 7) hC hr o67 I63.1 (by decide) cl_X10_49 rfl (Nat.le_of_ble_eq_true rfl) (hFr_of (Nat.le_of_ble_eq_true rfl) (Nat.le_of_ble_eq_true rfl)) dX10_node_60 ?_
  refine h_iconst (v := 1) hC dX10_node_63 rfl ?_
  refine h_isub hC dX10_node_64 ?_
  refine h_vi (fun x71 ex71 => ?_)
  have ND : gNd S S62 x y z := fun j h7 h14 hz => by
    obtain rfl | rfl | rfl | rfl | rfl | rfl | rfl := (by omega : j = 7 ∨ j = 8 ∨ j = 9 ∨ j = 10 ∨ j = 11 ∨ j = 12 ∨ j = 13)
    · exact gNd_row rfl rfl a6 rfl ((s65.z 7 (by decide)).trans ((s55.z 7 (by decide)).trans ((s45.z 7 (by decide)).trans ((s35.z 7 (by decide)).trans ((s25.z 7 (by decide)).trans (s15.z 7 (by decide))))))) ((s65.f 7 (by decide)).trans ((s55.f 7 (by decide)).trans ((s45.f 7 (by decide)).trans ((s35.f 7 (by decide)).trans ((s25.f 7 (by decide)).trans (s15.f 7 (by decide))))))) hz
    · exact gNd_row (s5.z 8 (by decide)) (s5.f 8 (by decide)) a16 rfl ((s65.z 8 (by decide)).trans ((s55.z 8 (by decide)).trans ((s45.z 8 (by decide)).trans ((s35.z 8 (by decide)).trans (s25.z 8 (by decide)))))) ((s65.f 8 (by decide)).trans ((s55.f 8 (by decide)).trans ((s45.f 8 (by decide)).trans ((s35.f 8 (by decide)).trans (s25.f 8 (by decide)))))) hz
    · exact gNd_row ((s15.z 9 (by decide)).trans (s5.z 9 (by decide))) ((s15.f 9 (by decide)).trans (s5.f 9 (by decide))) a26 rfl ((s65.z 9 (by decide)).trans ((s55.z 9 (by decide)).trans ((s45.z 9 (by decide)).trans (s35.z 9 (by decide))))) ((s65.f 9 (by decide)).trans ((s55.f 9 (by decide)).trans ((s45.f 9 (by decide)).trans (s35.f 9 (by decide))))) hz
    · exact gNd_row ((s25.z 10 (by decide)).trans ((s15.z 10 (by decide)).trans (s5.z 10 (by decide)))) ((s25.f 10 (by decide)).trans ((s15.f 10 (by decide)).trans (s5.f 10 (by decide)))) a36 rfl ((s65.z 10 (by decide)).trans ((s55.z 10 (by decide)).trans (s45.z 10 (by decide)))) ((s65.f 10 (by decide)).trans ((s55.f 10 (by decide)).trans (s45.f 10 (by decide)))) hz
    · exact gNd_row ((s35.z 11 (by decide)).trans ((s25.z 11 (by decide)).trans ((s15.z 11 (by decide)).trans (s5.z 11 (by decide))))) ((s35.f 11 (by decide)).trans ((s25.f 11 (by decide)).trans ((s15.f 11 (by decide)).trans (s5.f 11 (by decide))))) a46 rfl ((s65.z 11 (by decide)).trans (s55.z 11 (by decide))) ((s65.f 11 (by decide)).trans (s55.f 11 (by decide))) hz
    · exact gNd_row ((s45.z 12 (by decide)).trans ((s35.z 12 (by decide)).trans ((s25.z 12 (by decide)).trans ((s15.z 12 (by decide)).trans (s5.z 12 (by decide)))))) ((s45.f 12 (by decide)).trans ((s35.f 12 (by decide)).trans ((s25.f 12 (by decide)).trans ((s15.f 12 (by decide)).trans (s5.f 12 (by decide)))))) a56 rfl (s65.z 12 (by decide)) (s65.f 12 (by decide)) hz
    · exact gNd_row ((s55.z 13 (by decide)).trans ((s45.z 13 (by decide)).trans ((s35.z 13 (by decide)).trans ((s25.z 13 (by decide)).trans ((s15.z 13 (by decide)).trans (s5.z 13 (by decide))))))) ((s55.f 13 (by decide)).trans ((s45.f 13 (by decide)).trans ((s35.f 13 (by decide)).trans ((s25.f 13 (by decide)).trans ((s15.f 13 (by decide)).trans (s5.f 13 (by decide))))))) a66 rfl rfl rfl hz
  exact h_iret hC hr o67 rfl rfl rfl ⟨S62, I63, K70, m69, by omega, ND, ex71⟩ dX10_node_65
