theorem dX12_feed_0 : decode cX12_feed 0 = .ok (.aload_n 0, 1) := by decide +kernel
theorem dX12_feed_1 : decode cX12_feed 1 = .ok (.iconst 0, 1) := by decide +kernel
theorem dX12_feed_2 : decode cX12_feed 2 = .ok (.putfield 7, 3) := by decide +kernel
theorem dX12_feed_5 : decode cX12_feed 5 = .ok (.aload_n 0, 1) := by decide +kernel
theorem dX12_feed_6 : decode cX12_feed 6 = .ok (.getfield 17, 3) := by decide +kernel
theorem dX12_feed_9 : decode cX12_feed 9 = .ok (.bipush 20, 2) := by decide +kernel
theorem dX12_feed_11 : decode cX12_feed 11 = .ok (.iadd, 1) := by decide +kernel
theorem dX12_feed_12 : decode cX12_feed 12 = .ok (.sipush 6000, 3) := by decide +kernel
theorem dX12_feed_15 : decode cX12_feed 15 = .ok (.if_icmp .le 5, 3) := by decide +kernel
theorem dX12_feed_18 : decode cX12_feed 18 = .ok (.iconst 0, 1) := by decide +kernel
theorem dX12_feed_19 : decode cX12_feed 19 = .ok (.ireturn, 1) := by decide +kernel
theorem dX12_feed_20 : decode cX12_feed 20 = .ok (.iconst 0, 1) := by decide +kernel
theorem dX12_feed_21 : decode cX12_feed 21 = .ok (.istore 6, 2) := by decide +kernel
theorem dX12_feed_23 : decode cX12_feed 23 = .ok (.iload 6, 2) := by decide +kernel
theorem dX12_feed_25 : decode cX12_feed 25 = .ok (.bipush 20, 2) := by decide +kernel
theorem dX12_feed_27 : decode cX12_feed 27 = .ok (.if_icmp .ge 86, 3) := by decide +kernel
theorem dX12_feed_30 : decode cX12_feed 30 = .ok (.iload_n 1, 1) := by decide +kernel
theorem dX12_feed_31 : decode cX12_feed 31 = .ok (.istore 7, 2) := by decide +kernel
theorem dX12_feed_33 : decode cX12_feed 33 = .ok (.iload 6, 2) := by decide +kernel
theorem dX12_feed_35 : decode cX12_feed 35 = .ok (.iconst 4, 1) := by decide +kernel
theorem dX12_feed_36 : decode cX12_feed 36 = .ok (.if_icmp .lt 6, 3) := by decide +kernel
theorem dX12_feed_39 : decode cX12_feed 39 = .ok (.iload_n 2, 1) := by decide +kernel
theorem dX12_feed_40 : decode cX12_feed 40 = .ok (.istore 7, 2) := by decide +kernel
theorem dX12_feed_42 : decode cX12_feed 42 = .ok (.iload 6, 2) := by decide +kernel
theorem dX12_feed_44 : decode cX12_feed 44 = .ok (.bipush 8, 2) := by decide +kernel
theorem dX12_feed_46 : decode cX12_feed 46 = .ok (.if_icmp .lt 6, 3) := by decide +kernel
theorem dX12_feed_49 : decode cX12_feed 49 = .ok (.iload_n 3, 1) := by decide +kernel
theorem dX12_feed_50 : decode cX12_feed 50 = .ok (.istore 7, 2) := by decide +kernel
theorem dX12_feed_52 : decode cX12_feed 52 = .ok (.iload 6, 2) := by decide +kernel
theorem dX12_feed_54 : decode cX12_feed 54 = .ok (.bipush 12, 2) := by decide +kernel
theorem dX12_feed_56 : decode cX12_feed 56 = .ok (.if_icmp .lt 7, 3) := by decide +kernel
theorem dX12_feed_59 : decode cX12_feed 59 = .ok (.iload 4, 2) := by decide +kernel
theorem dX12_feed_61 : decode cX12_feed 61 = .ok (.istore 7, 2) := by decide +kernel
theorem dX12_feed_63 : decode cX12_feed 63 = .ok (.iload 6, 2) := by decide +kernel
theorem dX12_feed_65 : decode cX12_feed 65 = .ok (.bipush 16, 2) := by decide +kernel
theorem dX12_feed_67 : decode cX12_feed 67 = .ok (.if_icmp .lt 7, 3) := by decide +kernel
theorem dX12_feed_70 : decode cX12_feed 70 = .ok (.iload 5, 2) := by decide +kernel
theorem dX12_feed_72 : decode cX12_feed 72 = .ok (.istore 7, 2) := by decide +kernel
theorem dX12_feed_74 : decode cX12_feed 74 = .ok (.aload_n 0, 1) := by decide +kernel
theorem dX12_feed_75 : decode cX12_feed 75 = .ok (.getfield 13, 3) := by decide +kernel
theorem dX12_feed_78 : decode cX12_feed 78 = .ok (.aload_n 0, 1) := by decide +kernel
theorem dX12_feed_79 : decode cX12_feed 79 = .ok (.getfield 17, 3) := by decide +kernel
theorem dX12_feed_82 : decode cX12_feed 82 = .ok (.iload 7, 2) := by decide +kernel
theorem dX12_feed_84 : decode cX12_feed 84 = .ok (.bipush 24, 2) := by decide +kernel
theorem dX12_feed_86 : decode cX12_feed 86 = .ok (.bipush 8, 2) := by decide +kernel
theorem dX12_feed_88 : decode cX12_feed 88 = .ok (.iload 6, 2) := by decide +kernel
theorem dX12_feed_90 : decode cX12_feed 90 = .ok (.iconst 3, 1) := by decide +kernel
theorem dX12_feed_91 : decode cX12_feed 91 = .ok (.iand, 1) := by decide +kernel
theorem dX12_feed_92 : decode cX12_feed 92 = .ok (.imul, 1) := by decide +kernel
theorem dX12_feed_93 : decode cX12_feed 93 = .ok (.isub, 1) := by decide +kernel
theorem dX12_feed_94 : decode cX12_feed 94 = .ok (.ishr, 1) := by decide +kernel
theorem dX12_feed_95 : decode cX12_feed 95 = .ok (.i2b, 1) := by decide +kernel
theorem dX12_feed_96 : decode cX12_feed 96 = .ok (.bastore, 1) := by decide +kernel
theorem dX12_feed_97 : decode cX12_feed 97 = .ok (.aload_n 0, 1) := by decide +kernel
theorem dX12_feed_98 : decode cX12_feed 98 = .ok (.dup, 1) := by decide +kernel
theorem dX12_feed_99 : decode cX12_feed 99 = .ok (.getfield 17, 3) := by decide +kernel
theorem dX12_feed_102 : decode cX12_feed 102 = .ok (.iconst 1, 1) := by decide +kernel
theorem dX12_feed_103 : decode cX12_feed 103 = .ok (.iadd, 1) := by decide +kernel
theorem dX12_feed_104 : decode cX12_feed 104 = .ok (.putfield 17, 3) := by decide +kernel
theorem dX12_feed_107 : decode cX12_feed 107 = .ok (.iinc 6 1, 3) := by decide +kernel
theorem dX12_feed_110 : decode cX12_feed 110 = .ok (.goto (-87), 3) := by decide +kernel
theorem dX12_feed_113 : decode cX12_feed 113 = .ok (.iconst 1, 1) := by decide +kernel
theorem dX12_feed_114 : decode cX12_feed 114 = .ok (.ireturn, 1) := by decide +kernel
set_option maxHeartbeats 4000000 in
set_option maxRecDepth 100000 in
theorem r_feed (l : Launch) (d : gD) (b : Nat) (F : gM) (t : Nat) (f : Nat → Value) (i1 i2 i3 i4 i5 : Int32) (w0 : Nat) (h : gRo F t f) (hv2 : f 2 = .int 0) (hv1 : f 1 = .ref w0) (ha_w0 : F w0 = .inl (gY d, 6000, .inl (fun _ => 0)))  : gMi l d b yX12_feed cX12_feed 8 .boolean 0 0 0 F [.ref t, .int i1, .int i2, .int i3, .int i4, .int i5] (fun r _ => r = 1) := by
  refine gM_of2 rfl (nL := 8) (Nat.le_of_ble_eq_true rfl) ?_
  intro X hX hC; subst hX
  show gG X d b _ F 0 0 0 [some (.ref t), some (.int i1), some (.int i2), some (.int i3), some (.int i4), some (.int i5), none, none] []
  refine g_aload_n hC dX12_feed_0 rfl ?_
  refine g_iconst (v := 0) hC dX12_feed_1 rfl ?_
  refine g_rput hC h fl_X12_7 rfl rfl (by decide) dX12_feed_2 (fun F1 f2 e3 ho4 hx5 => ?_)
  have f6 : F1 w0 = .inl (gY d, 6000, .inl (fun _ => 0)) := (hx5 w0 (gne ha_w0 h gk_ao)).trans ha_w0
  have p7 : f2 2 = .int 0 := by rw [e3]; exact (va_up_ne _ _ (by decide)).trans hv2
  have p8 : f2 1 = .ref w0 := by rw [e3]; exact (va_up_ne _ _ (by decide)).trans hv1
  have p9 : f2 0 = .int 0 := by rw [e3]; exact va_up_self _ _ _
  refine g_aload_n hC dX12_feed_5 rfl ?_
  refine g_rget hC ho4 fl_X12_17 p7 (by decide) dX12_feed_6 ?_
  refine g_bipush (v := 20) hC dX12_feed_9 rfl ?_
  refine g_iadd hC dX12_feed_11 ?_
  refine g_vi (fun x10 ex10 => ?_)
  refine g_sipush (v := 6000) hC dX12_feed_12 rfl ?_
  refine g_icmp_le (tgt := 20) hC dX12_feed_15 (by decide) (fun c11 => ?_) (fun c11 => ?_)
  · refine g_iconst (v := 0) hC dX12_feed_20 rfl ?_
    refine g_istore (lv' := [some (.ref t), some (.int i1), some (.int i2), some (.int i3), some (.int i4), some (.int i5), some (.int 0), none]) hC dX12_feed_21 (Nat.le_of_ble_eq_true rfl) rfl rfl ?_
    have LOOP : ∀ (m j : Nat) (F2 : gM) (f2 : Nat → Value) (g : Nat → Int32), m + j = 21 → j ≤ 20 → gRo F2 t f2 → f2 2 = .int (nI j) → f2 1 = .ref w0 → F2 w0 = .inl (gY d, 6000, .inl g) → gG X d b (MQ X.be (va_Qi (fun r _ => r = 1) (gB d b) (fun q => b ≤ q)) X.ar X.st 0 0 (fun q => b ≤ q)) F2 0 0 23 [some (.ref t), some (.int i1), some (.int i2), some (.int i3), some (.int i4), some (.int i5), some (.int (nI j)), none] [] := by
      intro m
      induction m with
      | zero => intro j F2 f2 g h1 h2; exact absurd h1 (by omega)
      | succ m ih =>
        intro j F2 f2 g h1 h2 ho2 hl2 hw2 ha2
        refine g_iload hC dX12_feed_23 rfl ?_
        refine g_bipush (v := 20) hC dX12_feed_25 rfl ?_
        refine g_icmp_ge (tgt := 113) hC dX12_feed_27 (by decide) (fun c12 => ?_) (fun c12 => ?_)
        · refine g_iconst (v := 1) hC dX12_feed_113 rfl ?_
          exact g_iret hC rfl rfl (by first | exact Nat.le_of_ble_eq_true rfl | omega | (simp only [gR]; omega)) (by first | exact Nat.le_of_ble_eq_true rfl | omega | (simp only [gR]; omega)) dX12_feed_114
        · have hj : j < 20 := Nat.lt_of_le_of_ne h2 (fun e => c12 (by rw [e]; decide))
          refine g_iload_n hC dX12_feed_30 rfl ?_
          refine g_istore (lv' := [some (.ref t), some (.int i1), some (.int i2), some (.int i3), some (.int i4), some (.int i5), some (.int (nI j)), some (.int i1)]) hC dX12_feed_31 (Nat.le_of_ble_eq_true rfl) rfl rfl ?_
          have P74 : ∀ u : Int32, gG X d b (MQ X.be (va_Qi (fun r _ => r = 1) (gB d b) (fun q => b ≤ q)) X.ar X.st 0 0 (fun q => b ≤ q)) F2 0 0 74 [some (.ref t), some (.int i1), some (.int i2), some (.int i3), some (.int i4), some (.int i5), some (.int (nI j)), some (.int u)] [] := by
            intro u
            refine g_aload_n hC dX12_feed_74 rfl ?_
            refine g_rget hC ho2 fl_X12_13 hw2 (by decide) dX12_feed_75 ?_
            refine g_aload_n hC dX12_feed_78 rfl ?_
            refine g_rget hC ho2 fl_X12_17 hl2 (by decide) dX12_feed_79 ?_
            refine g_iload hC dX12_feed_82 rfl ?_
            refine g_bipush (v := 24) hC dX12_feed_84 rfl ?_
            refine g_bipush (v := 8) hC dX12_feed_86 rfl ?_
            refine g_iload hC dX12_feed_88 rfl ?_
            refine g_iconst (v := 3) hC dX12_feed_90 rfl ?_
            refine g_iand hC dX12_feed_91 ?_
            refine g_vi (fun x13 ex13 => ?_)
            refine g_imul hC dX12_feed_92 ?_
            refine g_vi (fun x14 ex14 => ?_)
            refine g_isub hC dX12_feed_93 ?_
            refine g_vi (fun x15 ex15 => ?_)
            refine g_ishr hC dX12_feed_94 ?_
            refine g_vi (fun x16 ex16 => ?_)
            refine g_i2b hC dX12_feed_95 ?_
            refine g_vi (fun x17 ex17 => ?_)
            refine g_bast hC ha2 (vp_in_nI (by omega) (by decide)) dX12_feed_96 ?_
            refine g_vF (fun F18 hF18 => ?_)
            have f19 : F18 w0 = .inl (gY d, 6000, .inl (upd g ((nI j)).toNatClampNeg (vp_nar .byte x17))) := by rw [hF18]; exact va_up_self _ _ _
            have ho20 : gRo F18 t f2 := by show F18 t = _; rw [hF18, va_up_ne _ _ (gne ho2 ha2 gk_oa)]; exact ho2
            refine g_aload_n hC dX12_feed_97 rfl ?_
            refine g_dup hC dX12_feed_98 rfl ?_
            refine g_rget hC ho20 fl_X12_17 hl2 (by decide) dX12_feed_99 ?_
            refine g_iconst (v := 1) hC dX12_feed_102 rfl ?_
            refine g_iadd hC dX12_feed_103 ?_
            refine g_vi (fun x21 ex21 => ?_)
            refine g_rput hC ho20 fl_X12_17 rfl rfl (by decide) dX12_feed_104 (fun F22 f23 e24 ho25 hx26 => ?_)
            have f27 : F22 w0 = .inl (gY d, 6000, .inl (upd g ((nI j)).toNatClampNeg (vp_nar .byte x17))) := (hx26 w0 (gne f19 ho20 gk_ao)).trans f19
            have p28 : f23 1 = .ref w0 := by rw [e24]; exact (va_up_ne _ _ (by decide)).trans hw2
            have p29 : f23 2 = .int x21 := by rw [e24]; exact va_up_self _ _ _
            obtain ⟨x30, ex30⟩ : ∃ y : Int32, y = (nI j) + 1 := ⟨_, rfl⟩
            refine g_iinc (v := x30) (lv' := [some (.ref t), some (.int i1), some (.int i2), some (.int i3), some (.int i4), some (.int i5), some (.int x30), some (.int u)]) hC dX12_feed_107 rfl (by rw [ex30]; rfl) rfl rfl ?_
            have zx30 : x30 = nI (j + 1) := by rw [ex30]; exact nI_1 j
            subst zx30
            refine g_goto (tgt := 23) hC dX12_feed_110 (by decide) ?_
            refine g_lv (lv' := [some (.ref t), some (.int i1), some (.int i2), some (.int i3), some (.int i4), some (.int i5), some (.int (nI (j + 1))), none]) ⟨rfl, rfl, rfl, rfl, rfl, rfl, rfl, trivial⟩ ?_
            exact ih (j + 1) _ _ _ (by omega) (by omega) ho25 (by rw [p29, ex21]; exact congrArg _ (nI_1 j)) p28 f27
          have P63 : ∀ u : Int32, gG X d b (MQ X.be (va_Qi (fun r _ => r = 1) (gB d b) (fun q => b ≤ q)) X.ar X.st 0 0 (fun q => b ≤ q)) F2 0 0 63 [some (.ref t), some (.int i1), some (.int i2), some (.int i3), some (.int i4), some (.int i5), some (.int (nI j)), some (.int u)] [] := by
            intro u
            refine g_iload hC dX12_feed_63 rfl ?_
            refine g_bipush (v := 16) hC dX12_feed_65 rfl ?_
            refine g_icmp_lt (tgt := 74) hC dX12_feed_67 (by decide) (fun c31 => ?_) (fun c31 => ?_)
            · exact P74 _
            · refine g_iload hC dX12_feed_70 rfl ?_
              refine g_istore (lv' := [some (.ref t), some (.int i1), some (.int i2), some (.int i3), some (.int i4), some (.int i5), some (.int (nI j)), some (.int i5)]) hC dX12_feed_72 (Nat.le_of_ble_eq_true rfl) rfl rfl ?_
              exact P74 _
          have P52 : ∀ u : Int32, gG X d b (MQ X.be (va_Qi (fun r _ => r = 1) (gB d b) (fun q => b ≤ q)) X.ar X.st 0 0 (fun q => b ≤ q)) F2 0 0 52 [some (.ref t), some (.int i1), some (.int i2), some (.int i3), some (.int i4), some (.int i5), some (.int (nI j)), some (.int u)] [] := by
            intro u
            refine g_iload hC dX12_feed_52 rfl ?_
            refine g_bipush (v := 12) hC dX12_feed_54 rfl ?_
            refine g_icmp_lt (tgt := 63) hC dX12_feed_56 (by decide) (fun c32 => ?_) (fun c32 => ?_)
            · exact P63 _
            · refine g_iload hC dX12_feed_59 rfl ?_
              refine g_istore (lv' := [some (.ref t), some (.int i1), some (.int i2), some (.int i3), some (.int i4), some (.int i5), some (.int (nI j)), some (.int i4)]) hC dX12_feed_61 (Nat.le_of_ble_eq_true rfl) rfl rfl ?_
              exact P63 _
          have P42 : ∀ u : Int32, gG X d b (MQ X.be (va_Qi (fun r _ => r = 1) (gB d b) (fun q => b ≤ q)) X.ar X.st 0 0 (fun q => b ≤ q)) F2 0 0 42 [some (.ref t), some (.int i1), some (.int i2), some (.int i3), some (.int i4), some (.int i5), some (.int (nI j)), some (.int u)] [] := by
            intro u
            refine g_iload hC dX12_feed_42 rfl ?_
            refine g_bipush (v := 8) hC dX12_feed_44 rfl ?_
            refine g_icmp_lt (tgt := 52) hC dX12_feed_46 (by decide) (fun c33 => ?_) (fun c33 => ?_)
            · exact P52 _
            · refine g_iload_n hC dX12_feed_49 rfl ?_
              refine g_istore (lv' := [some (.ref t), some (.int i1), some (.int i2), some (.int i3), some (.int i4), some (.int i5), some (.int (nI j)), some (.int i3)]) hC dX12_feed_50 (Nat.le_of_ble_eq_true rfl) rfl rfl ?_
              exact P52 _
          refine g_iload hC dX12_feed_33 rfl ?_
          refine g_iconst (v := 4) hC dX12_feed_35 rfl ?_
          refine g_icmp_lt (tgt := 42) hC dX12_feed_36 (by decide) (fun c34 => ?_) (fun c34 => ?_)
          · exact P42 _
          · refine g_iload_n hC dX12_feed_39 rfl ?_
            refine g_istore (lv' := [some (.ref t), some (.int i1), some (.int i2), some (.int i3), some (.int i4), some (.int i5), some (.int (nI j)), some (.int i2)]) hC dX12_feed_40 (Nat.le_of_ble_eq_true rfl) rfl rfl ?_
            exact P42 _
    exact LOOP 21 0 _ _ _ rfl (by decide) ho4 p7 p8 f6
  · exact absurd (by rw [ex10]; decide) c11
