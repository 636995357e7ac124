theorem kw_2749 : Cond.constant RX12 926 32768 ∈ gWs := gWm 2749 (by decide +kernel) rfl
/-- all but t and the cells of l is as it was -/
def gKr (F F' : gM) (t : Nat) (l : List Nat) : Prop := ∀ x, x ≠ t → x ∉ l → F' x = F x
theorem gKr.rf {F : gM} {t : Nat} {l : List Nat} : gKr F F t l := fun _ _ _ => rfl
theorem gKr.tr {F F1 F2 : gM} {t : Nat} {l : List Nat} (h : gKr F F1 t l) (h2 : gKr F1 F2 t l) : gKr F F2 t l := fun x a b => (h2 x a b).trans (h x a b)
theorem gFiveN {i : Int32} (h1 : ¬ i = 4096) (h2 : ¬ i = 8192) (h3 : ¬ i = 16384) (h4 : ¬ i = 32768) (h5 : ¬ i = 65536) : ¬ gFive i := fun h => by
  rcases h with h | h | h | h | h
  · exact h1 h
  · exact h2 h
  · exact h3 h
  · exact h4 h
  · exact h5 h
theorem dX12_fault__0 : decode cX12_fault_ 0 = .ok (.aload_n 0, 1) := by decide +kernel
theorem dX12_fault__1 : decode cX12_fault_ 1 = .ok (.iconst 0, 1) := by decide +kernel
theorem dX12_fault__2 : decode cX12_fault_ 2 = .ok (.putfield 7, 3) := by decide +kernel
theorem dX12_fault__5 : decode cX12_fault_ 5 = .ok (.aload_n 0, 1) := by decide +kernel
theorem dX12_fault__6 : decode cX12_fault_ 6 = .ok (.getfield 48, 3) := by decide +kernel
theorem dX12_fault__9 : decode cX12_fault_ 9 = .ok (.ireturn, 1) := by decide +kernel
set_option maxHeartbeats 4000000 in
set_option maxRecDepth 100000 in
theorem r_fault (l : Launch) (d : gD) (b : Nat) (F : gM) (t : Nat) (f : Nat → Value)  (h : gRo F t f) (hv12 : f 12 = .int 0)   : gMi l d b yX12_fault_ cX12_fault_ 1 .int 0 0 0 F [.ref t] (fun r _ => r = 0) := by
  refine gM_of2 rfl (nL := 1) (Nat.le_of_ble_eq_true rfl) ?_
  intro X hX hC; subst hX
  show gG X d b _ F 0 0 0 [some (.ref t)] []
  refine g_aload_n hC dX12_fault__0 rfl ?_
  refine g_iconst (v := 0) hC dX12_fault__1 rfl ?_
  refine g_rput hC h fl_X12_7 rfl rfl (by decide) dX12_fault__2 (fun F1 f2 e3 ho4 hx5 => ?_)
  have p6 : f2 12 = .int 0 := by rw [e3]; exact (va_up_ne _ _ (by decide)).trans hv12
  have p7 : f2 0 = .int 0 := by rw [e3]; exact va_up_self _ _ _
  refine g_aload_n hC dX12_fault__5 rfl ?_
  refine g_rget hC ho4 fl_X12_48 p6 (by decide) dX12_fault__6 ?_
  exact g_iret hC rfl rfl (by first | exact Nat.le_of_ble_eq_true rfl | omega | (simp only [gR]; omega)) (by first | exact Nat.le_of_ble_eq_true rfl | omega | (simp only [gR]; omega)) dX12_fault__9
theorem dX12_value_0 : decode cX12_value 0 = .ok (.aload_n 0, 1) := by decide +kernel
theorem dX12_value_1 : decode cX12_value 1 = .ok (.iconst 0, 1) := by decide +kernel
theorem dX12_value_2 : decode cX12_value 2 = .ok (.putfield 7, 3) := by decide +kernel
theorem dX12_value_5 : decode cX12_value 5 = .ok (.aload_n 0, 1) := by decide +kernel
theorem dX12_value_6 : decode cX12_value 6 = .ok (.getfield 330, 3) := by decide +kernel
theorem dX12_value_9 : decode cX12_value 9 = .ok (.ireturn, 1) := by decide +kernel
set_option maxHeartbeats 4000000 in
set_option maxRecDepth 100000 in
theorem r_value (l : Launch) (d : gD) (b : Nat) (F : gM) (t : Nat) (f : Nat → Value)  (h : gRo F t f) (hv104 : f 104 = .int 0)   : gMi l d b yX12_value cX12_value 1 .int 0 0 0 F [.ref t] (fun r _ => r = 0) := by
  refine gM_of2 rfl (nL := 1) (Nat.le_of_ble_eq_true rfl) ?_
  intro X hX hC; subst hX
  show gG X d b _ F 0 0 0 [some (.ref t)] []
  refine g_aload_n hC dX12_value_0 rfl ?_
  refine g_iconst (v := 0) hC dX12_value_1 rfl ?_
  refine g_rput hC h fl_X12_7 rfl rfl (by decide) dX12_value_2 (fun F1 f2 e3 ho4 hx5 => ?_)
  have p6 : f2 104 = .int 0 := by rw [e3]; exact (va_up_ne _ _ (by decide)).trans hv104
  have p7 : f2 0 = .int 0 := by rw [e3]; exact va_up_self _ _ _
  refine g_aload_n hC dX12_value_5 rfl ?_
  refine g_rget hC ho4 fl_X12_330 p6 (by decide) dX12_value_6 ?_
  exact g_iret hC rfl rfl (by first | exact Nat.le_of_ble_eq_true rfl | omega | (simp only [gR]; omega)) (by first | exact Nat.le_of_ble_eq_true rfl | omega | (simp only [gR]; omega)) dX12_value_9
theorem dX12_fuel_0 : decode cX12_fuel 0 = .ok (.aload_n 0, 1) := by decide +kernel
theorem dX12_fuel_1 : decode cX12_fuel 1 = .ok (.iconst 0, 1) := by decide +kernel
theorem dX12_fuel_2 : decode cX12_fuel 2 = .ok (.putfield 7, 3) := by decide +kernel
theorem dX12_fuel_5 : decode cX12_fuel 5 = .ok (.aload_n 0, 1) := by decide +kernel
theorem dX12_fuel_6 : decode cX12_fuel 6 = .ok (.getfield 321, 3) := by decide +kernel
theorem dX12_fuel_9 : decode cX12_fuel 9 = .ok (.ireturn, 1) := by decide +kernel
set_option maxHeartbeats 4000000 in
set_option maxRecDepth 100000 in
theorem r_fuel (l : Launch) (d : gD) (b : Nat) (F : gM) (t : Nat) (f : Nat → Value)  (h : gRo F t f) (hv101 : f 101 = .int 0)   : gMi l d b yX12_fuel cX12_fuel 1 .int 0 0 0 F [.ref t] (fun r _ => r = 0) := by
  refine gM_of2 rfl (nL := 1) (Nat.le_of_ble_eq_true rfl) ?_
  intro X hX hC; subst hX
  show gG X d b _ F 0 0 0 [some (.ref t)] []
  refine g_aload_n hC dX12_fuel_0 rfl ?_
  refine g_iconst (v := 0) hC dX12_fuel_1 rfl ?_
  refine g_rput hC h fl_X12_7 rfl rfl (by decide) dX12_fuel_2 (fun F1 f2 e3 ho4 hx5 => ?_)
  have p6 : f2 101 = .int 0 := by rw [e3]; exact (va_up_ne _ _ (by decide)).trans hv101
  have p7 : f2 0 = .int 0 := by rw [e3]; exact va_up_self _ _ _
  refine g_aload_n hC dX12_fuel_5 rfl ?_
  refine g_rget hC ho4 fl_X12_321 p6 (by decide) dX12_fuel_6 ?_
  exact g_iret hC rfl rfl (by first | exact Nat.le_of_ble_eq_true rfl | omega | (simp only [gR]; omega)) (by first | exact Nat.le_of_ble_eq_true rfl | omega | (simp only [gR]; omega)) dX12_fuel_9
theorem dX12_thrown_0 : decode cX12_thrown 0 = .ok (.aload_n 0, 1) := by decide +kernel
theorem dX12_thrown_1 : decode cX12_thrown 1 = .ok (.getfield 7, 3) := by decide +kernel
theorem dX12_thrown_4 : decode cX12_thrown 4 = .ok (.ireturn, 1) := by decide +kernel
set_option maxHeartbeats 4000000 in
set_option maxRecDepth 100000 in
theorem r_thrown (l : Launch) (d : gD) (b : Nat) (F : gM) (t : Nat) (f : Nat → Value) (u : Int32) (h : gRo F t f) (hv0 : f 0 = .int u)   : gMi l d b yX12_thrown cX12_thrown 1 .int 0 0 0 F [.ref t] (fun r F' => r = u ∧ F' = F) := by
  refine gM_of2 rfl (nL := 1) (Nat.le_of_ble_eq_true rfl) ?_
  intro X hX hC; subst hX
  show gG X d b _ F 0 0 0 [some (.ref t)] []
  refine g_aload_n hC dX12_thrown_0 rfl ?_
  refine g_rget hC h fl_X12_7 hv0 (by decide) dX12_thrown_1 ?_
  exact g_iret hC rfl ⟨rfl, rfl⟩ (by first | exact Nat.le_of_ble_eq_true rfl | omega | (simp only [gR]; omega)) (by first | exact Nat.le_of_ble_eq_true rfl | omega | (simp only [gR]; omega)) dX12_thrown_4
theorem dX12_run_0 : decode cX12_run 0 = .ok (.aload_n 0, 1) := by decide +kernel
theorem dX12_run_1 : decode cX12_run 1 = .ok (.iconst 0, 1) := by decide +kernel
theorem dX12_run_2 : decode cX12_run 2 = .ok (.putfield 7, 3) := by decide +kernel
theorem dX12_run_5 : decode cX12_run 5 = .ok (.aload_n 0, 1) := by decide +kernel
theorem dX12_run_6 : decode cX12_run 6 = .ok (.getfield 333, 3) := by decide +kernel
theorem dX12_run_9 : decode cX12_run 9 = .ok (.ifCond .eq 14, 3) := by decide +kernel
theorem dX12_run_12 : decode cX12_run 12 = .ok (.iload_n 1, 1) := by decide +kernel
theorem dX12_run_13 : decode cX12_run 13 = .ok (.ifCond .lt 10, 3) := by decide +kernel
theorem dX12_run_16 : decode cX12_run 16 = .ok (.iload_n 1, 1) := by decide +kernel
theorem dX12_run_17 : decode cX12_run 17 = .ok (.ldc_w 930, 3) := by decide +kernel
theorem dX12_run_20 : decode cX12_run 20 = .ok (.if_icmp .le 5, 3) := by decide +kernel
theorem dX12_run_23 : decode cX12_run 23 = .ok (.iconst (-1), 1) := by decide +kernel
theorem dX12_run_24 : decode cX12_run 24 = .ok (.ireturn, 1) := by decide +kernel
theorem dX12_run_25 : decode cX12_run 25 = .ok (.iconst 0, 1) := by decide +kernel
theorem dX12_run_26 : decode cX12_run 26 = .ok (.istore_n 2, 1) := by decide +kernel
theorem dX12_run_27 : decode cX12_run 27 = .ok (.iload_n 2, 1) := by decide +kernel
theorem dX12_run_28 : decode cX12_run 28 = .ok (.ldc_w 311, 3) := by decide +kernel
theorem dX12_run_31 : decode cX12_run 31 = .ok (.if_icmp .ge 16, 3) := by decide +kernel
theorem dX12_run_34 : decode cX12_run 34 = .ok (.aload_n 0, 1) := by decide +kernel
theorem dX12_run_35 : decode cX12_run 35 = .ok (.getfield 312, 3) := by decide +kernel
theorem dX12_run_38 : decode cX12_run 38 = .ok (.iload_n 2, 1) := by decide +kernel
theorem dX12_run_39 : decode cX12_run 39 = .ok (.iconst 0, 1) := by decide +kernel
theorem dX12_run_40 : decode cX12_run 40 = .ok (.iastore, 1) := by decide +kernel
theorem dX12_run_41 : decode cX12_run 41 = .ok (.iinc 2 1, 3) := by decide +kernel
theorem dX12_run_44 : decode cX12_run 44 = .ok (.goto (-17), 3) := by decide +kernel
theorem dX12_run_47 : decode cX12_run 47 = .ok (.iconst 0, 1) := by decide +kernel
theorem dX12_run_48 : decode cX12_run 48 = .ok (.istore_n 2, 1) := by decide +kernel
theorem dX12_run_49 : decode cX12_run 49 = .ok (.iload_n 2, 1) := by decide +kernel
theorem dX12_run_50 : decode cX12_run 50 = .ok (.aload_n 0, 1) := by decide +kernel
theorem dX12_run_51 : decode cX12_run 51 = .ok (.getfield 267, 3) := by decide +kernel
theorem dX12_run_54 : decode cX12_run 54 = .ok (.if_icmp .ge 26, 3) := by decide +kernel
theorem dX12_run_57 : decode cX12_run 57 = .ok (.aload_n 0, 1) := by decide +kernel
theorem dX12_run_58 : decode cX12_run 58 = .ok (.getfield 312, 3) := by decide +kernel
theorem dX12_run_61 : decode cX12_run 61 = .ok (.aload_n 0, 1) := by decide +kernel
theorem dX12_run_62 : decode cX12_run 62 = .ok (.getfield 270, 3) := by decide +kernel
theorem dX12_run_65 : decode cX12_run 65 = .ok (.iload_n 2, 1) := by decide +kernel
theorem dX12_run_66 : decode cX12_run 66 = .ok (.iaload, 1) := by decide +kernel
theorem dX12_run_67 : decode cX12_run 67 = .ok (.aload_n 0, 1) := by decide +kernel
theorem dX12_run_68 : decode cX12_run 68 = .ok (.getfield 273, 3) := by decide +kernel
theorem dX12_run_71 : decode cX12_run 71 = .ok (.iload_n 2, 1) := by decide +kernel
theorem dX12_run_72 : decode cX12_run 72 = .ok (.iaload, 1) := by decide +kernel
theorem dX12_run_73 : decode cX12_run 73 = .ok (.iastore, 1) := by decide +kernel
theorem dX12_run_74 : decode cX12_run 74 = .ok (.iinc 2 1, 3) := by decide +kernel
theorem dX12_run_77 : decode cX12_run 77 = .ok (.goto (-28), 3) := by decide +kernel
theorem dX12_run_80 : decode cX12_run 80 = .ok (.aload_n 0, 1) := by decide +kernel
theorem dX12_run_81 : decode cX12_run 81 = .ok (.iconst 0, 1) := by decide +kernel
theorem dX12_run_82 : decode cX12_run 82 = .ok (.putfield 336, 3) := by decide +kernel
theorem dX12_run_85 : decode cX12_run 85 = .ok (.aload_n 0, 1) := by decide +kernel
theorem dX12_run_86 : decode cX12_run 86 = .ok (.iconst 0, 1) := by decide +kernel
theorem dX12_run_87 : decode cX12_run 87 = .ok (.putfield 360, 3) := by decide +kernel
theorem dX12_run_90 : decode cX12_run 90 = .ok (.aload_n 0, 1) := by decide +kernel
theorem dX12_run_91 : decode cX12_run 91 = .ok (.iconst 0, 1) := by decide +kernel
theorem dX12_run_92 : decode cX12_run 92 = .ok (.putfield 369, 3) := by decide +kernel
theorem dX12_run_95 : decode cX12_run 95 = .ok (.aload_n 0, 1) := by decide +kernel
theorem dX12_run_96 : decode cX12_run 96 = .ok (.getfield 366, 3) := by decide +kernel
theorem dX12_run_99 : decode cX12_run 99 = .ok (.iconst 0, 1) := by decide +kernel
theorem dX12_run_100 : decode cX12_run 100 = .ok (.iconst 0, 1) := by decide +kernel
theorem dX12_run_101 : decode cX12_run 101 = .ok (.iastore, 1) := by decide +kernel
theorem dX12_run_102 : decode cX12_run 102 = .ok (.aload_n 0, 1) := by decide +kernel
theorem dX12_run_103 : decode cX12_run 103 = .ok (.getfield 366, 3) := by decide +kernel
theorem dX12_run_106 : decode cX12_run 106 = .ok (.iconst 1, 1) := by decide +kernel
theorem dX12_run_107 : decode cX12_run 107 = .ok (.iconst 0, 1) := by decide +kernel
theorem dX12_run_108 : decode cX12_run 108 = .ok (.iastore, 1) := by decide +kernel
theorem dX12_run_109 : decode cX12_run 109 = .ok (.aload_n 0, 1) := by decide +kernel
theorem dX12_run_110 : decode cX12_run 110 = .ok (.iload_n 1, 1) := by decide +kernel
theorem dX12_run_111 : decode cX12_run 111 = .ok (.putfield 321, 3) := by decide +kernel
theorem dX12_run_114 : decode cX12_run 114 = .ok (.aload_n 0, 1) := by decide +kernel
theorem dX12_run_115 : decode cX12_run 115 = .ok (.iconst 0, 1) := by decide +kernel
theorem dX12_run_116 : decode cX12_run 116 = .ok (.putfield 324, 3) := by decide +kernel
theorem dX12_run_119 : decode cX12_run 119 = .ok (.aload_n 0, 1) := by decide +kernel
theorem dX12_run_120 : decode cX12_run 120 = .ok (.iconst 0, 1) := by decide +kernel
theorem dX12_run_121 : decode cX12_run 121 = .ok (.putfield 327, 3) := by decide +kernel
theorem dX12_run_124 : decode cX12_run 124 = .ok (.aload_n 0, 1) := by decide +kernel
theorem dX12_run_125 : decode cX12_run 125 = .ok (.iconst 0, 1) := by decide +kernel
theorem dX12_run_126 : decode cX12_run 126 = .ok (.putfield 330, 3) := by decide +kernel
theorem dX12_run_129 : decode cX12_run 129 = .ok (.aload_n 0, 1) := by decide +kernel
theorem dX12_run_130 : decode cX12_run 130 = .ok (.iconst 0, 1) := by decide +kernel
theorem dX12_run_131 : decode cX12_run 131 = .ok (.putfield 276, 3) := by decide +kernel
theorem dX12_run_134 : decode cX12_run 134 = .ok (.aload_n 0, 1) := by decide +kernel
theorem dX12_run_135 : decode cX12_run 135 = .ok (.iconst 0, 1) := by decide +kernel
theorem dX12_run_136 : decode cX12_run 136 = .ok (.putfield 289, 3) := by decide +kernel
theorem dX12_run_139 : decode cX12_run 139 = .ok (.aload_n 0, 1) := by decide +kernel
theorem dX12_run_140 : decode cX12_run 140 = .ok (.iconst 0, 1) := by decide +kernel
theorem dX12_run_141 : decode cX12_run 141 = .ok (.putfield 302, 3) := by decide +kernel
theorem dX12_run_144 : decode cX12_run 144 = .ok (.aload_n 0, 1) := by decide +kernel
theorem dX12_run_145 : decode cX12_run 145 = .ok (.iconst 0, 1) := by decide +kernel
theorem dX12_run_146 : decode cX12_run 146 = .ok (.putfield 305, 3) := by decide +kernel
theorem dX12_run_149 : decode cX12_run 149 = .ok (.aload_n 0, 1) := by decide +kernel
theorem dX12_run_150 : decode cX12_run 150 = .ok (.iconst 0, 1) := by decide +kernel
theorem dX12_run_151 : decode cX12_run 151 = .ok (.putfield 308, 3) := by decide +kernel
theorem dX12_run_154 : decode cX12_run 154 = .ok (.aload_n 0, 1) := by decide +kernel
theorem dX12_run_155 : decode cX12_run 155 = .ok (.aload_n 0, 1) := by decide +kernel
theorem dX12_run_156 : decode cX12_run 156 = .ok (.getfield 99, 3) := by decide +kernel
theorem dX12_run_159 : decode cX12_run 159 = .ok (.aload_n 0, 1) := by decide +kernel
theorem dX12_run_160 : decode cX12_run 160 = .ok (.getfield 261, 3) := by decide +kernel
theorem dX12_run_163 : decode cX12_run 163 = .ok (.iaload, 1) := by decide +kernel
theorem dX12_run_164 : decode cX12_run 164 = .ok (.aload_n 0, 1) := by decide +kernel
theorem dX12_run_165 : decode cX12_run 165 = .ok (.getfield 258, 3) := by decide +kernel
theorem dX12_run_168 : decode cX12_run 168 = .ok (.iconst 0, 1) := by decide +kernel
theorem dX12_run_169 : decode cX12_run 169 = .ok (.invokevirtual 827, 3) := by decide +kernel
theorem dX12_run_172 : decode cX12_run 172 = .ok (.aload_n 0, 1) := by decide +kernel
theorem dX12_run_173 : decode cX12_run 173 = .ok (.getfield 324, 3) := by decide +kernel
theorem dX12_run_176 : decode cX12_run 176 = .ok (.ifCond .ne 17, 3) := by decide +kernel
theorem dX12_run_179 : decode cX12_run 179 = .ok (.aload_n 0, 1) := by decide +kernel
theorem dX12_run_180 : decode cX12_run 180 = .ok (.getfield 276, 3) := by decide +kernel
theorem dX12_run_183 : decode cX12_run 183 = .ok (.ifCond .le 10, 3) := by decide +kernel
theorem dX12_run_186 : decode cX12_run 186 = .ok (.aload_n 0, 1) := by decide +kernel
theorem dX12_run_187 : decode cX12_run 187 = .ok (.invokevirtual 931, 3) := by decide +kernel
theorem dX12_run_190 : decode cX12_run 190 = .ok (.goto (-18), 3) := by decide +kernel
theorem dX12_run_193 : decode cX12_run 193 = .ok (.aload_n 0, 1) := by decide +kernel
theorem dX12_run_194 : decode cX12_run 194 = .ok (.getfield 324, 3) := by decide +kernel
theorem dX12_run_197 : decode cX12_run 197 = .ok (.ifCond .ne 11, 3) := by decide +kernel
theorem dX12_run_200 : decode cX12_run 200 = .ok (.aload_n 0, 1) := by decide +kernel
theorem dX12_run_201 : decode cX12_run 201 = .ok (.aload_n 0, 1) := by decide +kernel
theorem dX12_run_202 : decode cX12_run 202 = .ok (.invokevirtual 810, 3) := by decide +kernel
theorem dX12_run_205 : decode cX12_run 205 = .ok (.putfield 330, 3) := by decide +kernel
theorem dX12_run_208 : decode cX12_run 208 = .ok (.aload_n 0, 1) := by decide +kernel
theorem dX12_run_209 : decode cX12_run 209 = .ok (.getfield 327, 3) := by decide +kernel
theorem dX12_run_212 : decode cX12_run 212 = .ok (.ireturn, 1) := by decide +kernel
set_option maxHeartbeats 4000000 in
set_option maxRecDepth 100000 in
theorem r_run (l : Launch) (d : gD) (b : Nat) (F : gM) (t : Nat) (f : Nat → Value) (i : Int32) (h : gRo F t f) (hv105 : f 105 = .int 0)   : gMi l d b yX12_run cX12_run 3 .int 0 0 0 F [.ref t, .int i] (fun r _ => r = (-1)) := by
  refine gM_of2 rfl (nL := 3) (Nat.le_of_ble_eq_true rfl) ?_
  intro X hX hC; subst hX
  show gG X d b _ F 0 0 0 [some (.ref t), some (.int i), none] []
  refine g_aload_n hC dX12_run_0 rfl ?_
  refine g_iconst (v := 0) hC dX12_run_1 rfl ?_
  refine g_rput hC h fl_X12_7 rfl rfl (by decide) dX12_run_2 (fun F1 f2 e3 ho4 hx5 => ?_)
  have p6 : f2 105 = .int 0 := by rw [e3]; exact (va_up_ne _ _ (by decide)).trans hv105
  have p7 : f2 0 = .int 0 := by rw [e3]; exact va_up_self _ _ _
  refine g_aload_n hC dX12_run_5 rfl ?_
  refine g_rget hC ho4 fl_X12_333 p6 (by decide) dX12_run_6 ?_
  refine g_if_eq (tgt := 23) hC dX12_run_9 (by decide) (fun c8 => ?_) (fun c8 => ?_)
  · refine g_iconst (v := (-1)) hC dX12_run_23 rfl ?_
    exact g_iret hC rfl rfl (by first | exact Nat.le_of_ble_eq_true rfl | omega | (simp only [gR]; omega)) (by first | exact Nat.le_of_ble_eq_true rfl | omega | (simp only [gR]; omega)) dX12_run_24
  · exact absurd rfl c8
theorem dX12_end_0 : decode cX12_end 0 = .ok (.aload_n 0, 1) := by decide +kernel
theorem dX12_end_1 : decode cX12_end 1 = .ok (.iconst 0, 1) := by decide +kernel
theorem dX12_end_2 : decode cX12_end 2 = .ok (.putfield 7, 3) := by decide +kernel
theorem dX12_end_5 : decode cX12_end 5 = .ok (.iload_n 1, 1) := by decide +kernel
theorem dX12_end_6 : decode cX12_end 6 = .ok (.ifCond .lt 11, 3) := by decide +kernel
theorem dX12_end_9 : decode cX12_end 9 = .ok (.iload_n 1, 1) := by decide +kernel
theorem dX12_end_10 : decode cX12_end 10 = .ok (.aload_n 0, 1) := by decide +kernel
theorem dX12_end_11 : decode cX12_end 11 = .ok (.getfield 17, 3) := by decide +kernel
theorem dX12_end_14 : decode cX12_end 14 = .ok (.if_icmp .le 5, 3) := by decide +kernel
theorem dX12_end_17 : decode cX12_end 17 = .ok (.iconst 0, 1) := by decide +kernel
theorem dX12_end_18 : decode cX12_end 18 = .ok (.ireturn, 1) := by decide +kernel
theorem dX12_end_19 : decode cX12_end 19 = .ok (.aload_n 0, 1) := by decide +kernel
theorem dX12_end_20 : decode cX12_end 20 = .ok (.iload_n 1, 1) := by decide +kernel
theorem dX12_end_21 : decode cX12_end 21 = .ok (.putfield 17, 3) := by decide +kernel
theorem dX12_end_24 : decode cX12_end 24 = .ok (.iconst 1, 1) := by decide +kernel
theorem dX12_end_25 : decode cX12_end 25 = .ok (.ireturn, 1) := by decide +kernel
set_option maxHeartbeats 4000000 in
set_option maxRecDepth 100000 in
theorem r_end (l : Launch) (d : gD) (b : Nat) (F : gM) (t : Nat) (f : Nat → Value) (i : Int32) (h : gRo F t f) (hv2 : f 2 = .int 0)   : gMi l d b yX12_end cX12_end 2 .boolean 0 0 0 F [.ref t, .int i] (fun r _ => (i < 0 ∨ ¬ i ≤ 0 → r = 0) ∧ (¬ i < 0 ∧ i ≤ 0 → r = 1)) := by
  refine gM_of2 rfl (nL := 2) (Nat.le_of_ble_eq_true rfl) ?_
  intro X hX hC; subst hX
  show gG X d b _ F 0 0 0 [some (.ref t), some (.int i)] []
  refine g_aload_n hC dX12_end_0 rfl ?_
  refine g_iconst (v := 0) hC dX12_end_1 rfl ?_
  refine g_rput hC h fl_X12_7 rfl rfl (by decide) dX12_end_2 (fun F1 f2 e3 ho4 hx5 => ?_)
  have p6 : f2 2 = .int 0 := by rw [e3]; exact (va_up_ne _ _ (by decide)).trans hv2
  have p7 : f2 0 = .int 0 := by rw [e3]; exact va_up_self _ _ _
  refine g_iload_n hC dX12_end_5 rfl ?_
  refine g_if_lt (tgt := 17) hC dX12_end_6 (by decide) (fun c8 => ?_) (fun c8 => ?_)
  · refine g_iconst (v := 0) hC dX12_end_17 rfl ?_
    exact g_iret hC rfl ⟨fun _ => rfl, fun q => absurd c8 q.1⟩ (by first | exact Nat.le_of_ble_eq_true rfl | omega | (simp only [gR]; omega)) (by first | exact Nat.le_of_ble_eq_true rfl | omega | (simp only [gR]; omega)) dX12_end_18
  · refine g_iload_n hC dX12_end_9 rfl ?_
    refine g_aload_n hC dX12_end_10 rfl ?_
    refine g_rget hC ho4 fl_X12_17 p6 (by decide) dX12_end_11 ?_
    refine g_icmp_le (tgt := 19) hC dX12_end_14 (by decide) (fun c9 => ?_) (fun c9 => ?_)
    · refine g_aload_n hC dX12_end_19 rfl ?_
      refine g_iload_n hC dX12_end_20 rfl ?_
      refine g_rput hC ho4 fl_X12_17 rfl rfl (by decide) dX12_end_21 (fun F10 f11 e12 ho13 hx14 => ?_)
      have p15 : f11 0 = .int 0 := by rw [e12]; exact (va_up_ne _ _ (by decide)).trans p7
      have p16 : f11 2 = .int i := by rw [e12]; exact va_up_self _ _ _
      refine g_iconst (v := 1) hC dX12_end_24 rfl ?_
      exact g_iret hC rfl ⟨fun q => q.elim (fun z => absurd z c8) (fun z => absurd c9 z), fun _ => rfl⟩ (by first | exact Nat.le_of_ble_eq_true rfl | omega | (simp only [gR]; omega)) (by first | exact Nat.le_of_ble_eq_true rfl | omega | (simp only [gR]; omega)) dX12_end_25
    · refine g_iconst (v := 0) hC dX12_end_17 rfl ?_
      exact g_iret hC rfl ⟨fun _ => rfl, fun q => absurd q.2 c9⟩ (by first | exact Nat.le_of_ble_eq_true rfl | omega | (simp only [gR]; omega)) (by first | exact Nat.le_of_ble_eq_true rfl | omega | (simp only [gR]; omega)) dX12_end_18
theorem dX12_store_0 : decode cX12_store 0 = .ok (.aload_n 0, 1) := by decide +kernel
theorem dX12_store_1 : decode cX12_store 1 = .ok (.iconst 0, 1) := by decide +kernel
theorem dX12_store_2 : decode cX12_store 2 = .ok (.putfield 7, 3) := by decide +kernel
theorem dX12_store_5 : decode cX12_store 5 = .ok (.iload_n 1, 1) := by decide +kernel
theorem dX12_store_6 : decode cX12_store 6 = .ok (.sipush 4096, 3) := by decide +kernel
theorem dX12_store_9 : decode cX12_store 9 = .ok (.if_icmp .eq 33, 3) := by decide +kernel
theorem dX12_store_12 : decode cX12_store 12 = .ok (.iload_n 1, 1) := by decide +kernel
theorem dX12_store_13 : decode cX12_store 13 = .ok (.sipush 8192, 3) := by decide +kernel
theorem dX12_store_16 : decode cX12_store 16 = .ok (.if_icmp .eq 26, 3) := by decide +kernel
theorem dX12_store_19 : decode cX12_store 19 = .ok (.iload_n 1, 1) := by decide +kernel
theorem dX12_store_20 : decode cX12_store 20 = .ok (.sipush 16384, 3) := by decide +kernel
theorem dX12_store_23 : decode cX12_store 23 = .ok (.if_icmp .eq 19, 3) := by decide +kernel
theorem dX12_store_26 : decode cX12_store 26 = .ok (.iload_n 1, 1) := by decide +kernel
theorem dX12_store_27 : decode cX12_store 27 = .ok (.ldc_w 926, 3) := by decide +kernel
theorem dX12_store_30 : decode cX12_store 30 = .ok (.if_icmp .eq 12, 3) := by decide +kernel
theorem dX12_store_33 : decode cX12_store 33 = .ok (.iload_n 1, 1) := by decide +kernel
theorem dX12_store_34 : decode cX12_store 34 = .ok (.ldc_w 311, 3) := by decide +kernel
theorem dX12_store_37 : decode cX12_store 37 = .ok (.if_icmp .eq 5, 3) := by decide +kernel
theorem dX12_store_40 : decode cX12_store 40 = .ok (.iconst 0, 1) := by decide +kernel
theorem dX12_store_41 : decode cX12_store 41 = .ok (.ireturn, 1) := by decide +kernel
theorem dX12_store_42 : decode cX12_store 42 = .ok (.aload_n 0, 1) := by decide +kernel
theorem dX12_store_43 : decode cX12_store 43 = .ok (.iload_n 1, 1) := by decide +kernel
theorem dX12_store_44 : decode cX12_store 44 = .ok (.putfield 318, 3) := by decide +kernel
theorem dX12_store_47 : decode cX12_store 47 = .ok (.iconst 1, 1) := by decide +kernel
theorem dX12_store_48 : decode cX12_store 48 = .ok (.ireturn, 1) := by decide +kernel
set_option maxHeartbeats 4000000 in
set_option maxRecDepth 100000 in
theorem r_store (l : Launch) (d : gD) (b : Nat) (F : gM) (t : Nat) (f : Nat → Value) (i : Int32) (h : gRo F t f)    : gMi l d b yX12_store cX12_store 2 .boolean 0 0 0 F [.ref t, .int i] (fun r _ => (gFive i → r = 1) ∧ (¬ gFive i → r = 0)) := by
  refine gM_of2 rfl (nL := 2) (Nat.le_of_ble_eq_true rfl) ?_
  intro X hX hC; subst hX
  show gG X d b _ F 0 0 0 [some (.ref t), some (.int i)] []
  refine g_aload_n hC dX12_store_0 rfl ?_
  refine g_iconst (v := 0) hC dX12_store_1 rfl ?_
  refine g_rput hC h fl_X12_7 rfl rfl (by decide) dX12_store_2 (fun F1 f2 e3 ho4 hx5 => ?_)
  have p6 : f2 0 = .int 0 := by rw [e3]; exact va_up_self _ _ _
  refine g_iload_n hC dX12_store_5 rfl ?_
  refine g_sipush (v := 4096) hC dX12_store_6 rfl ?_
  refine g_icmp_eq (tgt := 42) hC dX12_store_9 (by decide) (fun c7 => ?_) (fun c7 => ?_)
  · refine g_aload_n hC dX12_store_42 rfl ?_
    refine g_iload_n hC dX12_store_43 rfl ?_
    refine g_rput hC ho4 fl_X12_318 rfl rfl (by decide) dX12_store_44 (fun F8 f9 e10 ho11 hx12 => ?_)
    have p13 : f9 0 = .int 0 := by rw [e10]; exact (va_up_ne _ _ (by decide)).trans p6
    have p14 : f9 100 = .int i := by rw [e10]; exact va_up_self _ _ _
    refine g_iconst (v := 1) hC dX12_store_47 rfl ?_
    exact g_iret hC rfl ⟨fun _ => rfl, fun q => absurd (Or.inl c7 : gFive i) q⟩ (by first | exact Nat.le_of_ble_eq_true rfl | omega | (simp only [gR]; omega)) (by first | exact Nat.le_of_ble_eq_true rfl | omega | (simp only [gR]; omega)) dX12_store_48
  · refine g_iload_n hC dX12_store_12 rfl ?_
    refine g_sipush (v := 8192) hC dX12_store_13 rfl ?_
    refine g_icmp_eq (tgt := 42) hC dX12_store_16 (by decide) (fun c15 => ?_) (fun c15 => ?_)
    · refine g_aload_n hC dX12_store_42 rfl ?_
      refine g_iload_n hC dX12_store_43 rfl ?_
      refine g_rput hC ho4 fl_X12_318 rfl rfl (by decide) dX12_store_44 (fun F16 f17 e18 ho19 hx20 => ?_)
      have p21 : f17 0 = .int 0 := by rw [e18]; exact (va_up_ne _ _ (by decide)).trans p6
      have p22 : f17 100 = .int i := by rw [e18]; exact va_up_self _ _ _
      refine g_iconst (v := 1) hC dX12_store_47 rfl ?_
      exact g_iret hC rfl ⟨fun _ => rfl, fun q => absurd (Or.inr (Or.inl c15) : gFive i) q⟩ (by first | exact Nat.le_of_ble_eq_true rfl | omega | (simp only [gR]; omega)) (by first | exact Nat.le_of_ble_eq_true rfl | omega | (simp only [gR]; omega)) dX12_store_48
    · refine g_iload_n hC dX12_store_19 rfl ?_
      refine g_sipush (v := 16384) hC dX12_store_20 rfl ?_
      refine g_icmp_eq (tgt := 42) hC dX12_store_23 (by decide) (fun c23 => ?_) (fun c23 => ?_)
      · refine g_aload_n hC dX12_store_42 rfl ?_
        refine g_iload_n hC dX12_store_43 rfl ?_
        refine g_rput hC ho4 fl_X12_318 rfl rfl (by decide) dX12_store_44 (fun F24 f25 e26 ho27 hx28 => ?_)
        have p29 : f25 0 = .int 0 := by rw [e26]; exact (va_up_ne _ _ (by decide)).trans p6
        have p30 : f25 100 = .int i := by rw [e26]; exact va_up_self _ _ _
        refine g_iconst (v := 1) hC dX12_store_47 rfl ?_
        exact g_iret hC rfl ⟨fun _ => rfl, fun q => absurd (Or.inr (Or.inr (Or.inl c23)) : gFive i) q⟩ (by first | exact Nat.le_of_ble_eq_true rfl | omega | (simp only [gR]; omega)) (by first | exact Nat.le_of_ble_eq_true rfl | omega | (simp only [gR]; omega)) dX12_store_48
      · refine g_iload_n hC dX12_store_26 rfl ?_
        refine g_ldcw hC dX12_store_27 kw_2749 ?_
        refine g_icmp_eq (tgt := 42) hC dX12_store_30 (by decide) (fun c31 => ?_) (fun c31 => ?_)
        · refine g_aload_n hC dX12_store_42 rfl ?_
          refine g_iload_n hC dX12_store_43 rfl ?_
          refine g_rput hC ho4 fl_X12_318 rfl rfl (by decide) dX12_store_44 (fun F32 f33 e34 ho35 hx36 => ?_)
          have p37 : f33 0 = .int 0 := by rw [e34]; exact (va_up_ne _ _ (by decide)).trans p6
          have p38 : f33 100 = .int i := by rw [e34]; exact va_up_self _ _ _
          refine g_iconst (v := 1) hC dX12_store_47 rfl ?_
          exact g_iret hC rfl ⟨fun _ => rfl, fun q => absurd (Or.inr (Or.inr (Or.inr (Or.inl c31))) : gFive i) q⟩ (by first | exact Nat.le_of_ble_eq_true rfl | omega | (simp only [gR]; omega)) (by first | exact Nat.le_of_ble_eq_true rfl | omega | (simp only [gR]; omega)) dX12_store_48
        · refine g_iload_n hC dX12_store_33 rfl ?_
          refine g_ldcw hC dX12_store_34 kw_1955 ?_
          refine g_icmp_eq (tgt := 42) hC dX12_store_37 (by decide) (fun c39 => ?_) (fun c39 => ?_)
          · refine g_aload_n hC dX12_store_42 rfl ?_
            refine g_iload_n hC dX12_store_43 rfl ?_
            refine g_rput hC ho4 fl_X12_318 rfl rfl (by decide) dX12_store_44 (fun F40 f41 e42 ho43 hx44 => ?_)
            have p45 : f41 0 = .int 0 := by rw [e42]; exact (va_up_ne _ _ (by decide)).trans p6
            have p46 : f41 100 = .int i := by rw [e42]; exact va_up_self _ _ _
            refine g_iconst (v := 1) hC dX12_store_47 rfl ?_
            exact g_iret hC rfl ⟨fun _ => rfl, fun q => absurd (Or.inr (Or.inr (Or.inr (Or.inr (c39)))) : gFive i) q⟩ (by first | exact Nat.le_of_ble_eq_true rfl | omega | (simp only [gR]; omega)) (by first | exact Nat.le_of_ble_eq_true rfl | omega | (simp only [gR]; omega)) dX12_store_48
          · refine g_iconst (v := 0) hC dX12_store_40 rfl ?_
            exact g_iret hC rfl ⟨fun q => absurd q (gFiveN c7 c15 c23 c31 c39), fun _ => rfl⟩ (by first | exact Nat.le_of_ble_eq_true rfl | omega | (simp only [gR]; omega)) (by first | exact Nat.le_of_ble_eq_true rfl | omega | (simp only [gR]; omega)) dX12_store_41
