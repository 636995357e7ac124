theorem kw_761 : Cond.fieldLink RX5 51 "WordTongue$Machine" "answer" "I" ∈ gWs := gWm 761 (by decide +kernel) rfl
theorem kw_766 : Cond.laysFinal RX5 "WordTongue$Machine" "program" "LWordTongue$Program;" ∈ gWs := gWm 766 (by decide +kernel) rfl
theorem kw_768 : Cond.laysFinal RX5 "WordTongue$Machine" "channels" "LWordTongue$Channels;" ∈ gWs := gWm 768 (by decide +kernel) rfl
theorem kw_770 : Cond.laysFinal RX5 "WordTongue$Machine" "heap" "LWordTongue$Heap;" ∈ gWs := gWm 770 (by decide +kernel) rfl
theorem kw_772 : Cond.laysFinal RX5 "WordTongue$Machine" "stack" "LWordTongue$Ints;" ∈ gWs := gWm 772 (by decide +kernel) rfl
theorem kw_774 : Cond.laysFinal RX5 "WordTongue$Machine" "calls" "LWordTongue$Ints;" ∈ gWs := gWm 774 (by decide +kernel) rfl
theorem kw_776 : Cond.lays RX5 "WordTongue$Machine" "cells" "[I" ∈ gWs := gWm 776 (by decide +kernel) rfl
theorem kw_778 : Cond.lays RX5 "WordTongue$Machine" "words" "I" ∈ gWs := gWm 778 (by decide +kernel) rfl
theorem kw_780 : Cond.lays RX5 "WordTongue$Machine" "at" "I" ∈ gWs := gWm 780 (by decide +kernel) rfl
theorem kw_782 : Cond.lays RX5 "WordTongue$Machine" "base" "I" ∈ gWs := gWm 782 (by decide +kernel) rfl
theorem kw_784 : Cond.lays RX5 "WordTongue$Machine" "routine" "I" ∈ gWs := gWm 784 (by decide +kernel) rfl
theorem kw_786 : Cond.lays RX5 "WordTongue$Machine" "rest" "I" ∈ gWs := gWm 786 (by decide +kernel) rfl
theorem kw_788 : Cond.lays RX5 "WordTongue$Machine" "answer" "I" ∈ gWs := gWm 788 (by decide +kernel) rfl
theorem kw_790 : Cond.lays RX5 "WordTongue$Machine" "error" "I" ∈ gWs := gWm 790 (by decide +kernel) rfl
theorem kw_792 : Cond.lays RX5 "WordTongue$Machine" "over" "Z" ∈ gWs := gWm 792 (by decide +kernel) rfl
theorem kw_794 : Cond.lays RX5 "WordTongue$Machine" "service" "I" ∈ gWs := gWm 794 (by decide +kernel) rfl
theorem kw_796 : Cond.lays RX5 "WordTongue$Machine" "given" "I" ∈ gWs := gWm 796 (by decide +kernel) rfl
set_option maxRecDepth 20000 in
theorem inW_RX5 : ∀ w ∈ u_ws RX5 TX5 16, w ∈ gWs := List.forall_mem_cons.mpr ⟨kw_766, List.forall_mem_cons.mpr ⟨kw_768, List.forall_mem_cons.mpr ⟨kw_770, List.forall_mem_cons.mpr ⟨kw_772, List.forall_mem_cons.mpr ⟨kw_774, List.forall_mem_cons.mpr ⟨kw_776, List.forall_mem_cons.mpr ⟨kw_778, List.forall_mem_cons.mpr ⟨kw_780, List.forall_mem_cons.mpr ⟨kw_782, List.forall_mem_cons.mpr ⟨kw_784, List.forall_mem_cons.mpr ⟨kw_786, List.forall_mem_cons.mpr ⟨kw_788, List.forall_mem_cons.mpr ⟨kw_790, List.forall_mem_cons.mpr ⟨kw_792, List.forall_mem_cons.mpr ⟨kw_794, List.forall_mem_cons.mpr ⟨kw_796, fun _ h => nomatch h⟩⟩⟩⟩⟩⟩⟩⟩⟩⟩⟩⟩⟩⟩⟩⟩
theorem fl_X5_51 : gFL RX5 51 5 11 .int false := ⟨RX5, TX5, 16, tyX5, rfl, by decide, inW_RX5, kw_761, tyX5_ok, nmX5, rfl, by decide +kernel, fun h => by cases h⟩
theorem kw_760 : Cond.fieldLink RX5 48 "WordTongue$Machine" "rest" "I" ∈ gWs := gWm 760 (by decide +kernel) rfl
theorem fl_X5_48 : gFL RX5 48 5 10 .int false := ⟨RX5, TX5, 16, tyX5, rfl, by decide, inW_RX5, kw_760, tyX5_ok, nmX5, rfl, by decide +kernel, fun h => by cases h⟩
theorem kw_806 : Cond.fieldLink RX11 71 "WordTongue" "machine" "LWordTongue$Machine;" ∈ gWs := gWm 806 (by decide +kernel) rfl
theorem fl_X11_71 : gFL RX11 71 11 7 (.object "WordTongue$Machine") true := ⟨RX11, TX11, 10, tyX11, rfl, by decide, inW_RX11, kw_806, tyX11_ok, nmX11, rfl, by decide +kernel, fun _ => rfl⟩
theorem kw_255 : Cond.initialized RX5 ∈ gWs := gWm 255 (by decide +kernel) rfl
theorem kw_1885 : Cond.code yX5_told cX5_told 1 (some .int) ∈ gWs := gWm 1885 (by decide +kernel) rfl
theorem kw_1882 : Cond.methodLink RX11 141 yX5_told ∈ gWs := gWm 1882 (by decide +kernel) rfl
theorem kw_1883 : Cond.instanceMethod yX5_told ∈ gWs := gWm 1883 (by decide +kernel) rfl
theorem kw_1884 : Cond.selects RX5 yX5_told yX5_told ∈ gWs := gWm 1884 (by decide +kernel) rfl
theorem cl_X11_141 : gCV RX11 141 yX5_told cX5_told 1 (some .int) 0 := ⟨g_mk [.methodLink RX11 141 yX5_told, .instanceMethod yX5_told, .selects yX5_told.cls yX5_told yX5_told, .initialized yX5_told.cls] (gWs_all kw_1885) (List.forall_mem_cons.mpr ⟨kw_1882, List.forall_mem_cons.mpr ⟨kw_1883, List.forall_mem_cons.mpr ⟨kw_1884, List.forall_mem_cons.mpr ⟨kw_255, fun _ h => nomatch h⟩⟩⟩⟩), rfl, by decide +kernel, by decide +kernel, by decide +kernel⟩
theorem kw_1901 : Cond.code yX5_fuelLeft cX5_fuelLeft 1 (some .int) ∈ gWs := gWm 1901 (by decide +kernel) rfl
theorem kw_1898 : Cond.methodLink RX11 157 yX5_fuelLeft ∈ gWs := gWm 1898 (by decide +kernel) rfl
theorem kw_1899 : Cond.instanceMethod yX5_fuelLeft ∈ gWs := gWm 1899 (by decide +kernel) rfl
theorem kw_1900 : Cond.selects RX5 yX5_fuelLeft yX5_fuelLeft ∈ gWs := gWm 1900 (by decide +kernel) rfl
theorem cl_X11_157 : gCV RX11 157 yX5_fuelLeft cX5_fuelLeft 1 (some .int) 0 := ⟨g_mk [.methodLink RX11 157 yX5_fuelLeft, .instanceMethod yX5_fuelLeft, .selects yX5_fuelLeft.cls yX5_fuelLeft yX5_fuelLeft, .initialized yX5_fuelLeft.cls] (gWs_all kw_1901) (List.forall_mem_cons.mpr ⟨kw_1898, List.forall_mem_cons.mpr ⟨kw_1899, List.forall_mem_cons.mpr ⟨kw_1900, List.forall_mem_cons.mpr ⟨kw_255, fun _ h => nomatch h⟩⟩⟩⟩), rfl, by decide +kernel, by decide +kernel, by decide +kernel⟩
theorem kw_1636 : Cond.code yX7_isReady cX7_isReady 1 (some .boolean) ∈ gWs := gWm 1636 (by decide +kernel) rfl
theorem kw_1633 : Cond.methodLink RX11 134 yX7_isReady ∈ gWs := gWm 1633 (by decide +kernel) rfl
theorem kw_1634 : Cond.instanceMethod yX7_isReady ∈ gWs := gWm 1634 (by decide +kernel) rfl
theorem kw_1635 : Cond.selects RX7 yX7_isReady yX7_isReady ∈ gWs := gWm 1635 (by decide +kernel) rfl
theorem cl_X11_134 : gCV RX11 134 yX7_isReady cX7_isReady 1 (some .boolean) 0 := ⟨g_mk [.methodLink RX11 134 yX7_isReady, .instanceMethod yX7_isReady, .selects yX7_isReady.cls yX7_isReady yX7_isReady, .initialized yX7_isReady.cls] (gWs_all kw_1636) (List.forall_mem_cons.mpr ⟨kw_1633, List.forall_mem_cons.mpr ⟨kw_1634, List.forall_mem_cons.mpr ⟨kw_1635, List.forall_mem_cons.mpr ⟨kw_240, fun _ h => nomatch h⟩⟩⟩⟩), rfl, by decide +kernel, by decide +kernel, by decide +kernel⟩
theorem kw_834 : Cond.methodLink RX11 82 yX4_size ∈ gWs := gWm 834 (by decide +kernel) rfl
theorem cl_X11_82 : gCV RX11 82 yX4_size cX4_size 1 (some .int) 0 := ⟨g_mk [.methodLink RX11 82 yX4_size, .instanceMethod yX4_size, .selects yX4_size.cls yX4_size yX4_size, .initialized yX4_size.cls] (gWs_all kw_428) (List.forall_mem_cons.mpr ⟨kw_834, List.forall_mem_cons.mpr ⟨kw_426, List.forall_mem_cons.mpr ⟨kw_427, List.forall_mem_cons.mpr ⟨kw_239, fun _ h => nomatch h⟩⟩⟩⟩), rfl, by decide +kernel, by decide +kernel, by decide +kernel⟩
theorem kw_710 : Cond.fieldLink RX0 14 "WordTongue$Channels" "inputs" "[LWordTongue$Ints;" ∈ gWs := gWm 710 (by decide +kernel) rfl
theorem kw_715 : Cond.laysFinal RX0 "WordTongue$Channels" "inputs" "[LWordTongue$Ints;" ∈ gWs := gWm 715 (by decide +kernel) rfl
theorem kw_717 : Cond.laysFinal RX0 "WordTongue$Channels" "positions" "[I" ∈ gWs := gWm 717 (by decide +kernel) rfl
theorem kw_719 : Cond.laysFinal RX0 "WordTongue$Channels" "outputs" "[LWordTongue$Ints;" ∈ gWs := gWm 719 (by decide +kernel) rfl
theorem kw_721 : Cond.lays RX0 "WordTongue$Channels" "inHand" "I" ∈ gWs := gWm 721 (by decide +kernel) rfl
theorem kw_723 : Cond.lays RX0 "WordTongue$Channels" "outHand" "I" ∈ gWs := gWm 723 (by decide +kernel) rfl
set_option maxRecDepth 20000 in
theorem inW_RX0 : ∀ w ∈ u_ws RX0 TX0 5, w ∈ gWs := List.forall_mem_cons.mpr ⟨kw_715, List.forall_mem_cons.mpr ⟨kw_717, List.forall_mem_cons.mpr ⟨kw_719, List.forall_mem_cons.mpr ⟨kw_721, List.forall_mem_cons.mpr ⟨kw_723, fun _ h => nomatch h⟩⟩⟩⟩⟩
theorem fl_X0_14 : gFL RX0 14 0 0 (.array (.object "WordTongue$Ints")) true := ⟨RX0, TX0, 5, tyX0, rfl, by decide, inW_RX0, kw_710, tyX0_ok, nmX0, rfl, by decide +kernel, fun _ => rfl⟩
theorem kw_711 : Cond.fieldLink RX0 20 "WordTongue$Channels" "positions" "[I" ∈ gWs := gWm 711 (by decide +kernel) rfl
theorem fl_X0_20 : gFL RX0 20 0 1 (.array .int) true := ⟨RX0, TX0, 5, tyX0, rfl, by decide, inW_RX0, kw_711, tyX0_ok, nmX0, rfl, by decide +kernel, fun _ => rfl⟩
theorem kw_712 : Cond.fieldLink RX0 24 "WordTongue$Channels" "outputs" "[LWordTongue$Ints;" ∈ gWs := gWm 712 (by decide +kernel) rfl
theorem fl_X0_24 : gFL RX0 24 0 2 (.array (.object "WordTongue$Ints")) true := ⟨RX0, TX0, 5, tyX0, rfl, by decide, inW_RX0, kw_712, tyX0_ok, nmX0, rfl, by decide +kernel, fun _ => rfl⟩
theorem kw_254 : Cond.initialized RX0 ∈ gWs := gWm 254 (by decide +kernel) rfl
theorem kw_1812 : Cond.code yX0_isOutput cX0_isOutput 2 (some .boolean) ∈ gWs := gWm 1812 (by decide +kernel) rfl
theorem kw_1809 : Cond.methodLink RX0 46 yX0_isOutput ∈ gWs := gWm 1809 (by decide +kernel) rfl
theorem kw_1811 : Cond.instanceMethod yX0_isOutput ∈ gWs := gWm 1811 (by decide +kernel) rfl
theorem kw_118 : Cond.selects RX0 yX0_isOutput yX0_isOutput ∈ gWs := gWm 118 (by decide +kernel) rfl
theorem cl_X0_46 : gCV RX0 46 yX0_isOutput cX0_isOutput 2 (some .boolean) 1 := ⟨g_mk [.methodLink RX0 46 yX0_isOutput, .instanceMethod yX0_isOutput, .selects yX0_isOutput.cls yX0_isOutput yX0_isOutput, .initialized yX0_isOutput.cls] (gWs_all kw_1812) (List.forall_mem_cons.mpr ⟨kw_1809, List.forall_mem_cons.mpr ⟨kw_1811, List.forall_mem_cons.mpr ⟨kw_118, List.forall_mem_cons.mpr ⟨kw_254, fun _ h => nomatch h⟩⟩⟩⟩), rfl, by decide +kernel, by decide +kernel, by decide +kernel⟩
theorem kw_1628 : Cond.methodLink RX0 42 yX4_size ∈ gWs := gWm 1628 (by decide +kernel) rfl
theorem cl_X0_42 : gCV RX0 42 yX4_size cX4_size 1 (some .int) 0 := ⟨g_mk [.methodLink RX0 42 yX4_size, .instanceMethod yX4_size, .selects yX4_size.cls yX4_size yX4_size, .initialized yX4_size.cls] (gWs_all kw_428) (List.forall_mem_cons.mpr ⟨kw_1628, List.forall_mem_cons.mpr ⟨kw_426, List.forall_mem_cons.mpr ⟨kw_427, List.forall_mem_cons.mpr ⟨kw_239, fun _ h => nomatch h⟩⟩⟩⟩), rfl, by decide +kernel, by decide +kernel, by decide +kernel⟩
theorem kw_805 : Cond.fieldLink RX11 62 "WordTongue" "channels" "LWordTongue$Channels;" ∈ gWs := gWm 805 (by decide +kernel) rfl
theorem fl_X11_62 : gFL RX11 62 11 6 (.object "WordTongue$Channels") true := ⟨RX11, TX11, 10, tyX11, rfl, by decide, inW_RX11, kw_805, tyX11_ok, nmX11, rfl, by decide +kernel, fun _ => rfl⟩
theorem kw_1893 : Cond.code yX0_length cX0_length 2 (some .int) ∈ gWs := gWm 1893 (by decide +kernel) rfl
theorem kw_1890 : Cond.methodLink RX11 144 yX0_length ∈ gWs := gWm 1890 (by decide +kernel) rfl
theorem kw_1891 : Cond.instanceMethod yX0_length ∈ gWs := gWm 1891 (by decide +kernel) rfl
theorem kw_1892 : Cond.selects RX0 yX0_length yX0_length ∈ gWs := gWm 1892 (by decide +kernel) rfl
theorem cl_X11_144 : gCV RX11 144 yX0_length cX0_length 2 (some .int) 1 := ⟨g_mk [.methodLink RX11 144 yX0_length, .instanceMethod yX0_length, .selects yX0_length.cls yX0_length yX0_length, .initialized yX0_length.cls] (gWs_all kw_1893) (List.forall_mem_cons.mpr ⟨kw_1890, List.forall_mem_cons.mpr ⟨kw_1891, List.forall_mem_cons.mpr ⟨kw_1892, List.forall_mem_cons.mpr ⟨kw_254, fun _ h => nomatch h⟩⟩⟩⟩), rfl, by decide +kernel, by decide +kernel, by decide +kernel⟩
theorem kw_756 : Cond.fieldLink RX5 35 "WordTongue$Machine" "words" "I" ∈ gWs := gWm 756 (by decide +kernel) rfl
theorem fl_X5_35 : gFL RX5 35 5 6 .int false := ⟨RX5, TX5, 16, tyX5, rfl, by decide, inW_RX5, kw_756, tyX5_ok, nmX5, rfl, by decide +kernel, fun h => by cases h⟩
theorem kw_1666 : Cond.code yX5_isThere cX5_isThere 2 (some .boolean) ∈ gWs := gWm 1666 (by decide +kernel) rfl
theorem kw_1663 : Cond.methodLink RX5 75 yX5_isThere ∈ gWs := gWm 1663 (by decide +kernel) rfl
theorem kw_1665 : Cond.instanceMethod yX5_isThere ∈ gWs := gWm 1665 (by decide +kernel) rfl
theorem kw_99 : Cond.selects RX5 yX5_isThere yX5_isThere ∈ gWs := gWm 99 (by decide +kernel) rfl
theorem cl_X5_75 : gCV RX5 75 yX5_isThere cX5_isThere 2 (some .boolean) 1 := ⟨g_mk [.methodLink RX5 75 yX5_isThere, .instanceMethod yX5_isThere, .selects yX5_isThere.cls yX5_isThere yX5_isThere, .initialized yX5_isThere.cls] (gWs_all kw_1666) (List.forall_mem_cons.mpr ⟨kw_1663, List.forall_mem_cons.mpr ⟨kw_1665, List.forall_mem_cons.mpr ⟨kw_99, List.forall_mem_cons.mpr ⟨kw_255, fun _ h => nomatch h⟩⟩⟩⟩), rfl, by decide +kernel, by decide +kernel, by decide +kernel⟩
theorem dX5_told_0 : decode cX5_told 0 = .ok (.aload_n 0, 1) := by decide +kernel
theorem dX5_told_1 : decode cX5_told 1 = .ok (.getfield 51, 3) := by decide +kernel
theorem dX5_told_4 : decode cX5_told 4 = .ok (.ireturn, 1) := by decide +kernel
set_option maxHeartbeats 4000000 in
set_option maxRecDepth 100000 in
theorem c_M_told (l : Launch) (d : gD) (b : Nat) (Y : gYt) (F : gM) (S : gSt) (hW : gWT d Y F S)  : gMi l d b yX5_told cX5_told 1 .int 0 0 0 F [.ref (gO' Y 7)] (fun r F' => r = sV S 32 ∧ F' = F) := by
  refine gM_of2 rfl (nL := 1) (Nat.le_of_ble_eq_true rfl) ?_
  intro X hX hC; subst hX
  show gG X d b _ F 0 0 0 [some (.ref (gO' Y 7))] []
  have hM0 : gSm S S [] [] := gSm.rf
  have hK0 : gKp Y F F := gKp.rf
  refine g_aload_n hC dX5_told_0 rfl ?_
  refine g_get hC fl_X5_51 (hW.o 7 (by decide)) rfl dX5_told_1 ?_
  exact g_iret hC rfl ⟨rfl, rfl⟩ (by first | exact Nat.le_of_ble_eq_true rfl | omega | (simp only [gR]; omega)) (by first | exact Nat.le_of_ble_eq_true rfl | omega | (simp only [gR]; omega)) dX5_told_4
theorem dX5_fuelLeft_0 : decode cX5_fuelLeft 0 = .ok (.aload_n 0, 1) := by decide +kernel
theorem dX5_fuelLeft_1 : decode cX5_fuelLeft 1 = .ok (.getfield 48, 3) := by decide +kernel
theorem dX5_fuelLeft_4 : decode cX5_fuelLeft 4 = .ok (.ireturn, 1) := by decide +kernel
set_option maxHeartbeats 4000000 in
set_option maxRecDepth 100000 in
theorem c_M_left (l : Launch) (d : gD) (b : Nat) (Y : gYt) (F : gM) (S : gSt) (hW : gWT d Y F S)  : gMi l d b yX5_fuelLeft cX5_fuelLeft 1 .int 0 0 0 F [.ref (gO' Y 7)] (fun r F' => r = sV S 31 ∧ F' = F) := by
  refine gM_of2 rfl (nL := 1) (Nat.le_of_ble_eq_true rfl) ?_
  intro X hX hC; subst hX
  show gG X d b _ F 0 0 0 [some (.ref (gO' Y 7))] []
  have hM0 : gSm S S [] [] := gSm.rf
  have hK0 : gKp Y F F := gKp.rf
  refine g_aload_n hC dX5_fuelLeft_0 rfl ?_
  refine g_get hC fl_X5_48 (hW.o 7 (by decide)) rfl dX5_fuelLeft_1 ?_
  exact g_iret hC rfl ⟨rfl, rfl⟩ (by first | exact Nat.le_of_ble_eq_true rfl | omega | (simp only [gR]; omega)) (by first | exact Nat.le_of_ble_eq_true rfl | omega | (simp only [gR]; omega)) dX5_fuelLeft_4
theorem dX11_fault_0 : decode cX11_fault 0 = .ok (.aload_n 0, 1) := by decide +kernel
theorem dX11_fault_1 : decode cX11_fault 1 = .ok (.getfield 21, 3) := by decide +kernel
theorem dX11_fault_4 : decode cX11_fault 4 = .ok (.invokevirtual 114, 3) := by decide +kernel
theorem dX11_fault_7 : decode cX11_fault 7 = .ok (.ireturn, 1) := by decide +kernel
set_option maxHeartbeats 4000000 in
set_option maxRecDepth 100000 in
theorem c_W_fault (l : Launch) (d : gD) (b : Nat) (Y : gYt) (F : gM) (S : gSt) (hW : gWT d Y F S)  : gMi l d b yX11_fault cX11_fault 1 .int 2 0 0 F [.ref (gO' Y 0)] (fun r F' => r = sV S 4 ∧ F' = F) := by
  refine gM_of2 rfl (nL := 1) (Nat.le_of_ble_eq_true rfl) ?_
  intro X hX hC; subst hX
  show gG X d b _ F 0 0 0 [some (.ref (gO' Y 0))] []
  have hM0 : gSm S S [] [] := gSm.rf
  have hK0 : gKp Y F F := gKp.rf
  refine g_aload_n hC dX11_fault_0 rfl ?_
  refine g_get hC fl_X11_21 (hW.o 0 (by decide)) rfl dX11_fault_1 ?_
  refine g_callVi (As := []) hC rfl (hW.o 1 (by decide)) (c_P_kind X.la d b Y F S hW ) cl_X11_114 rfl rfl (Nat.le_of_ble_eq_true rfl) (gFit_of (Nat.le_of_ble_eq_true rfl) (Nat.le_of_ble_eq_true rfl) (by first | exact Nat.le_of_ble_eq_true rfl | omega | (simp only [gR]; omega)) (by first | exact Nat.le_of_ble_eq_true rfl | omega | (simp only [gR]; omega))) dX11_fault_4 (fun r3 F1 p2 => ?_)
  obtain ⟨rfl, eF1⟩ := p2; have eF1 := eF1.symm; subst eF1
  exact g_iret hC rfl ⟨rfl, rfl⟩ (by first | exact Nat.le_of_ble_eq_true rfl | omega | (simp only [gR]; omega)) (by first | exact Nat.le_of_ble_eq_true rfl | omega | (simp only [gR]; omega)) dX11_fault_7
theorem dX11_value_0 : decode cX11_value 0 = .ok (.aload_n 0, 1) := by decide +kernel
theorem dX11_value_1 : decode cX11_value 1 = .ok (.getfield 71, 3) := by decide +kernel
theorem dX11_value_4 : decode cX11_value 4 = .ok (.invokevirtual 141, 3) := by decide +kernel
theorem dX11_value_7 : decode cX11_value 7 = .ok (.ireturn, 1) := by decide +kernel
set_option maxHeartbeats 4000000 in
set_option maxRecDepth 100000 in
theorem c_W_value (l : Launch) (d : gD) (b : Nat) (Y : gYt) (F : gM) (S : gSt) (hW : gWT d Y F S)  : gMi l d b yX11_value cX11_value 1 .int 2 0 0 F [.ref (gO' Y 0)] (fun r F' => r = sV S 32 ∧ F' = F) := by
  refine gM_of2 rfl (nL := 1) (Nat.le_of_ble_eq_true rfl) ?_
  intro X hX hC; subst hX
  show gG X d b _ F 0 0 0 [some (.ref (gO' Y 0))] []
  have hM0 : gSm S S [] [] := gSm.rf
  have hK0 : gKp Y F F := gKp.rf
  refine g_aload_n hC dX11_value_0 rfl ?_
  refine g_get hC fl_X11_71 (hW.o 0 (by decide)) rfl dX11_value_1 ?_
  refine g_callVi (As := []) hC rfl (hW.o 7 (by decide)) (c_M_told X.la d b Y F S hW ) cl_X11_141 rfl rfl (Nat.le_of_ble_eq_true rfl) (gFit_of (Nat.le_of_ble_eq_true rfl) (Nat.le_of_ble_eq_true rfl) (by first | exact Nat.le_of_ble_eq_true rfl | omega | (simp only [gR]; omega)) (by first | exact Nat.le_of_ble_eq_true rfl | omega | (simp only [gR]; omega))) dX11_value_4 (fun r3 F1 p2 => ?_)
  obtain ⟨rfl, eF1⟩ := p2; have eF1 := eF1.symm; subst eF1
  exact g_iret hC rfl ⟨rfl, rfl⟩ (by first | exact Nat.le_of_ble_eq_true rfl | omega | (simp only [gR]; omega)) (by first | exact Nat.le_of_ble_eq_true rfl | omega | (simp only [gR]; omega)) dX11_value_7
theorem dX11_fuel_0 : decode cX11_fuel 0 = .ok (.aload_n 0, 1) := by decide +kernel
theorem dX11_fuel_1 : decode cX11_fuel 1 = .ok (.getfield 71, 3) := by decide +kernel
theorem dX11_fuel_4 : decode cX11_fuel 4 = .ok (.invokevirtual 157, 3) := by decide +kernel
theorem dX11_fuel_7 : decode cX11_fuel 7 = .ok (.ireturn, 1) := by decide +kernel
set_option maxHeartbeats 4000000 in
set_option maxRecDepth 100000 in
theorem c_W_fuel (l : Launch) (d : gD) (b : Nat) (Y : gYt) (F : gM) (S : gSt) (hW : gWT d Y F S)  : gMi l d b yX11_fuel cX11_fuel 1 .int 2 0 0 F [.ref (gO' Y 0)] (fun r F' => r = sV S 31 ∧ F' = F) := by
  refine gM_of2 rfl (nL := 1) (Nat.le_of_ble_eq_true rfl) ?_
  intro X hX hC; subst hX
  show gG X d b _ F 0 0 0 [some (.ref (gO' Y 0))] []
  have hM0 : gSm S S [] [] := gSm.rf
  have hK0 : gKp Y F F := gKp.rf
  refine g_aload_n hC dX11_fuel_0 rfl ?_
  refine g_get hC fl_X11_71 (hW.o 0 (by decide)) rfl dX11_fuel_1 ?_
  refine g_callVi (As := []) hC rfl (hW.o 7 (by decide)) (c_M_left X.la d b Y F S hW ) cl_X11_157 rfl rfl (Nat.le_of_ble_eq_true rfl) (gFit_of (Nat.le_of_ble_eq_true rfl) (Nat.le_of_ble_eq_true rfl) (by first | exact Nat.le_of_ble_eq_true rfl | omega | (simp only [gR]; omega)) (by first | exact Nat.le_of_ble_eq_true rfl | omega | (simp only [gR]; omega))) dX11_fuel_4 (fun r3 F1 p2 => ?_)
  obtain ⟨rfl, eF1⟩ := p2; have eF1 := eF1.symm; subst eF1
  exact g_iret hC rfl ⟨rfl, rfl⟩ (by first | exact Nat.le_of_ble_eq_true rfl | omega | (simp only [gR]; omega)) (by first | exact Nat.le_of_ble_eq_true rfl | omega | (simp only [gR]; omega)) dX11_fuel_7
theorem dX11_run_0 : decode cX11_run 0 = .ok (.aload_n 0, 1) := by decide +kernel
theorem dX11_run_1 : decode cX11_run 1 = .ok (.getfield 21, 3) := by decide +kernel
theorem dX11_run_4 : decode cX11_run 4 = .ok (.invokevirtual 134, 3) := by decide +kernel
theorem dX11_run_7 : decode cX11_run 7 = .ok (.ifCond .eq 13, 3) := by decide +kernel
theorem dX11_run_10 : decode cX11_run 10 = .ok (.iload_n 1, 1) := by decide +kernel
theorem dX11_run_11 : decode cX11_run 11 = .ok (.ifCond .lt 9, 3) := by decide +kernel
theorem dX11_run_14 : decode cX11_run 14 = .ok (.iload_n 1, 1) := by decide +kernel
theorem dX11_run_15 : decode cX11_run 15 = .ok (.ldc 137, 2) := by decide +kernel
theorem dX11_run_17 : decode cX11_run 17 = .ok (.if_icmp .le 5, 3) := by decide +kernel
theorem dX11_run_20 : decode cX11_run 20 = .ok (.iconst (-1), 1) := by decide +kernel
theorem dX11_run_21 : decode cX11_run 21 = .ok (.ireturn, 1) := by decide +kernel
theorem dX11_run_22 : decode cX11_run 22 = .ok (.aload_n 0, 1) := by decide +kernel
theorem dX11_run_23 : decode cX11_run 23 = .ok (.getfield 71, 3) := by decide +kernel
theorem dX11_run_26 : decode cX11_run 26 = .ok (.iload_n 1, 1) := by decide +kernel
theorem dX11_run_27 : decode cX11_run 27 = .ok (.invokevirtual 138, 3) := by decide +kernel
theorem dX11_run_30 : decode cX11_run 30 = .ok (.ireturn, 1) := by decide +kernel
set_option maxHeartbeats 4000000 in
set_option maxRecDepth 100000 in
theorem c_W_run0 (l : Launch) (d : gD) (b : Nat) (Y : gYt) (F : gM) (S : gSt) (hW : gWT d Y F S) (hv6 : sV S 6 = 0) (i : Int32) : gMi l d b yX11_run cX11_run 2 .int 2 0 0 F [.ref (gO' Y 0), .int i] (fun r F' => r = (-1) ∧ F' = F) := by
  refine gM_of2 rfl (nL := 2) (Nat.le_of_ble_eq_true rfl) ?_
  intro X hX hC; subst hX
  show gG X d b _ F 0 0 0 [some (.ref (gO' Y 0)), some (.int i)] []
  have hM0 : gSm S S [] [] := gSm.rf
  have hK0 : gKp Y F F := gKp.rf
  refine g_aload_n hC dX11_run_0 rfl ?_
  refine g_get hC fl_X11_21 (hW.o 0 (by decide)) rfl dX11_run_1 ?_
  refine g_callVi (As := []) hC rfl (hW.o 1 (by decide)) (c_P_ready X.la d b Y F S hW ) cl_X11_134 rfl rfl (Nat.le_of_ble_eq_true rfl) (gFit_of (Nat.le_of_ble_eq_true rfl) (Nat.le_of_ble_eq_true rfl) (by first | exact Nat.le_of_ble_eq_true rfl | omega | (simp only [gR]; omega)) (by first | exact Nat.le_of_ble_eq_true rfl | omega | (simp only [gR]; omega))) dX11_run_4 (fun r3 F1 p2 => ?_)
  obtain ⟨rfl, eF1⟩ := p2; have eF1 := eF1.symm; subst eF1
  refine g_if_eq (tgt := 20) hC dX11_run_7 (by decide) (fun c4 => ?_) (fun c4 => ?_)
  · refine g_iconst (v := (-1)) hC dX11_run_20 rfl ?_
    exact g_iret hC rfl ⟨rfl, rfl⟩ (by first | exact Nat.le_of_ble_eq_true rfl | omega | (simp only [gR]; omega)) (by first | exact Nat.le_of_ble_eq_true rfl | omega | (simp only [gR]; omega)) dX11_run_21
  · exact absurd hv6 c4
theorem gend {i : Int32} {n z : Nat} (h1 : ¬ i < 0) (h2 : i ≤ nI n) (hn : n < 2 ^ 31) (a : ¬ i < 0 ∧ i.toNatClampNeg < n → z = i.toNatClampNeg) (b : i < 0 ∨ nI n ≤ i → z = n) : z = i.toNatClampNeg := by
  obtain ⟨j, hj, rfl⟩ := nI_of h1
  rw [nI_clamp hj] at a ⊢
  have h3 : j ≤ n := (nI_leI hj hn).mp h2
  by_cases c : j < n
  · exact a ⟨h1, c⟩
  · rw [b (Or.inr (nI_le (by omega) hj))]
    omega
theorem dX11_end_0 : decode cX11_end 0 = .ok (.iload_n 1, 1) := by decide +kernel
theorem dX11_end_1 : decode cX11_end 1 = .ok (.ifCond .lt 14, 3) := by decide +kernel
theorem dX11_end_4 : decode cX11_end 4 = .ok (.iload_n 1, 1) := by decide +kernel
theorem dX11_end_5 : decode cX11_end 5 = .ok (.aload_n 0, 1) := by decide +kernel
theorem dX11_end_6 : decode cX11_end 6 = .ok (.getfield 14, 3) := by decide +kernel
theorem dX11_end_9 : decode cX11_end 9 = .ok (.invokevirtual 82, 3) := by decide +kernel
theorem dX11_end_12 : decode cX11_end 12 = .ok (.if_icmp .le 5, 3) := by decide +kernel
theorem dX11_end_15 : decode cX11_end 15 = .ok (.iconst 0, 1) := by decide +kernel
theorem dX11_end_16 : decode cX11_end 16 = .ok (.ireturn, 1) := by decide +kernel
theorem dX11_end_17 : decode cX11_end 17 = .ok (.aload_n 0, 1) := by decide +kernel
theorem dX11_end_18 : decode cX11_end 18 = .ok (.getfield 14, 3) := by decide +kernel
theorem dX11_end_21 : decode cX11_end 21 = .ok (.iload_n 1, 1) := by decide +kernel
theorem dX11_end_22 : decode cX11_end 22 = .ok (.invokevirtual 92, 3) := by decide +kernel
theorem dX11_end_25 : decode cX11_end 25 = .ok (.iconst 1, 1) := by decide +kernel
theorem dX11_end_26 : decode cX11_end 26 = .ok (.ireturn, 1) := by decide +kernel
set_option maxHeartbeats 4000000 in
set_option maxRecDepth 100000 in
theorem c_W_end (l : Launch) (d : gD) (b : Nat) (Y : gYt) (F : gM) (S : gSt) (hW : gWT d Y F S) (i : Int32) : gMi l d b yX11_end cX11_end 2 .boolean 2 0 0 F [.ref (gO' Y 0), .int i] (fun r F' => (i < 0 ∨ ¬ i ≤ nI (sZ S 0) → r = 0 ∧ ∃ S', gWT d Y F' S' ∧ gKp Y F F' ∧ gSm S S' [0] [] ∧ S' = S) ∧ (¬ i < 0 ∧ i ≤ nI (sZ S 0) → r = 1 ∧ ∃ S', gWT d Y F' S' ∧ gKp Y F F' ∧ gSm S S' [0] [] ∧ sZ S' 0 = i.toNatClampNeg)) := by
  refine gM_of2 rfl (nL := 2) (Nat.le_of_ble_eq_true rfl) ?_
  intro X hX hC; subst hX
  show gG X d b _ F 0 0 0 [some (.ref (gO' Y 0)), some (.int i)] []
  have hM0 : gSm S S [0] [] := gSm.rf
  have hK0 : gKp Y F F := gKp.rf
  refine g_iload_n hC dX11_end_0 rfl ?_
  refine g_if_lt (tgt := 15) hC dX11_end_1 (by decide) (fun c1 => ?_) (fun c1 => ?_)
  · refine g_iconst (v := 0) hC dX11_end_15 rfl ?_
    exact g_iret hC rfl ⟨fun _ => ⟨rfl, S, hW, gKp.rf, gSm.rf, rfl⟩, fun z => absurd c1 z.1⟩ (by first | exact Nat.le_of_ble_eq_true rfl | omega | (simp only [gR]; omega)) (by first | exact Nat.le_of_ble_eq_true rfl | omega | (simp only [gR]; omega)) dX11_end_16
  · refine g_iload_n hC dX11_end_4 rfl ?_
    refine g_aload_n hC dX11_end_5 rfl ?_
    refine g_get hC fl_X11_14 (hW.o 0 (by decide)) rfl dX11_end_6 ?_
    refine g_callVi (As := []) hC rfl (hW.r 0 (by decide)).1 (c_Ints_size X.la d b F _ _ _ _ _ _ (hW.r 0 (by decide))) cl_X11_82 rfl rfl (Nat.le_of_ble_eq_true rfl) (gFit_of (Nat.le_of_ble_eq_true rfl) (Nat.le_of_ble_eq_true rfl) (by first | exact Nat.le_of_ble_eq_true rfl | omega | (simp only [gR]; omega)) (by first | exact Nat.le_of_ble_eq_true rfl | omega | (simp only [gR]; omega))) dX11_end_9 (fun r2 F3 p4 => ?_)
    obtain ⟨rfl, eF3⟩ := p4; have eF3 := eF3.symm; subst eF3
    refine g_icmp_le (tgt := 17) hC dX11_end_12 (by decide) (fun c5 => ?_) (fun c5 => ?_)
    · refine g_aload_n hC dX11_end_17 rfl ?_
      refine g_get hC fl_X11_14 (hW.o 0 (by decide)) rfl dX11_end_18 ?_
      refine g_iload_n hC dX11_end_21 rfl ?_
      refine g_callVv (As := [.int i]) hC rfl (hW.r 0 (by decide)).1 (c_Ints_cut X.la d b F _ _ _ _ _ _ (hW.r 0 (by decide)) i) cl_X11_92 rfl rfl (Nat.le_of_ble_eq_true rfl) (gFit_of (Nat.le_of_ble_eq_true rfl) (Nat.le_of_ble_eq_true rfl) (by first | exact Nat.le_of_ble_eq_true rfl | omega | (simp only [gR]; omega)) (by first | exact Nat.le_of_ble_eq_true rfl | omega | (simp only [gR]; omega))) dX11_end_22 (fun F7 p8 => ?_)
      obtain ⟨S9, hW10, k11, s12, u13, u14, u15, u16, u17⟩ := wt_cut hW (by decide) p8
      have hM18 : gSm S S9 [0] [] := hM0.tr s12 _ _ rfl rfl
      have hK19 : gKp Y F F7 := hK0.tr k11
      have hz : sZ S9 0 = i.toNatClampNeg := gend c1 c5 (Nat.lt_of_le_of_lt (hW.r 0 (by decide)).2.2.1 (Nat.lt_of_le_of_lt (hW.r 0 (by decide)).2.2.2.2.1 (by decide))) u15 u16
      refine g_iconst (v := 1) hC dX11_end_25 rfl ?_
      exact g_iret hC rfl ⟨fun z => absurd z (fun z => z.elim c1 (fun z => z c5)), fun _ => ⟨rfl, S9, hW10, hK19, hM18, hz⟩⟩ (by first | exact Nat.le_of_ble_eq_true rfl | omega | (simp only [gR]; omega)) (by first | exact Nat.le_of_ble_eq_true rfl | omega | (simp only [gR]; omega)) dX11_end_26
    · refine g_iconst (v := 0) hC dX11_end_15 rfl ?_
      exact g_iret hC rfl ⟨fun _ => ⟨rfl, S, hW, gKp.rf, gSm.rf, rfl⟩, fun z => absurd z.2 c5⟩ (by first | exact Nat.le_of_ble_eq_true rfl | omega | (simp only [gR]; omega)) (by first | exact Nat.le_of_ble_eq_true rfl | omega | (simp only [gR]; omega)) dX11_end_16
theorem dX0_isInput_0 : decode cX0_isInput 0 = .ok (.iload_n 1, 1) := by decide +kernel
theorem dX0_isInput_1 : decode cX0_isInput 1 = .ok (.ifCond .lt 25, 3) := by decide +kernel
theorem dX0_isInput_4 : decode cX0_isInput 4 = .ok (.iload_n 1, 1) := by decide +kernel
theorem dX0_isInput_5 : decode cX0_isInput 5 = .ok (.aload_n 0, 1) := by decide +kernel
theorem dX0_isInput_6 : decode cX0_isInput 6 = .ok (.getfield 14, 3) := by decide +kernel
theorem dX0_isInput_9 : decode cX0_isInput 9 = .ok (.arraylength, 1) := by decide +kernel
theorem dX0_isInput_10 : decode cX0_isInput 10 = .ok (.if_icmp .ge 16, 3) := by decide +kernel
theorem dX0_isInput_13 : decode cX0_isInput 13 = .ok (.iload_n 1, 1) := by decide +kernel
theorem dX0_isInput_14 : decode cX0_isInput 14 = .ok (.aload_n 0, 1) := by decide +kernel
theorem dX0_isInput_15 : decode cX0_isInput 15 = .ok (.getfield 20, 3) := by decide +kernel
theorem dX0_isInput_18 : decode cX0_isInput 18 = .ok (.arraylength, 1) := by decide +kernel
theorem dX0_isInput_19 : decode cX0_isInput 19 = .ok (.if_icmp .ge 7, 3) := by decide +kernel
theorem dX0_isInput_22 : decode cX0_isInput 22 = .ok (.iconst 1, 1) := by decide +kernel
theorem dX0_isInput_23 : decode cX0_isInput 23 = .ok (.goto 4, 3) := by decide +kernel
theorem dX0_isInput_26 : decode cX0_isInput 26 = .ok (.iconst 0, 1) := by decide +kernel
theorem dX0_isInput_27 : decode cX0_isInput 27 = .ok (.ireturn, 1) := by decide +kernel
set_option maxHeartbeats 4000000 in
set_option maxRecDepth 100000 in
theorem c_C_isInput (l : Launch) (d : gD) (b : Nat) (Y : gYt) (F : gM) (S : gSt) (hW : gWT d Y F S) (i : Int32) : gMi l d b yX0_isInput cX0_isInput 2 .boolean 0 0 0 F [.ref (gO' Y 6), .int i] (fun r F' => (i < 0 ∨ nI 4 ≤ i → r = 0) ∧ (¬ i < 0 ∧ ¬ nI 4 ≤ i → r = 1) ∧ F' = F) := by
  refine gM_of2 rfl (nL := 2) (Nat.le_of_ble_eq_true rfl) ?_
  intro X hX hC; subst hX
  show gG X d b _ F 0 0 0 [some (.ref (gO' Y 6)), some (.int i)] []
  obtain ⟨⟨fI, hI, hI2⟩, fO, hO, hO2⟩ := id hW.2.2.2.1
  have hM0 : gSm S S [] [] := gSm.rf
  have hK0 : gKp Y F F := gKp.rf
  refine g_iload_n hC dX0_isInput_0 rfl ?_
  refine g_if_lt (tgt := 26) hC dX0_isInput_1 (by decide) (fun c1 => ?_) (fun c1 => ?_)
  · refine g_iconst (v := 0) hC dX0_isInput_26 rfl ?_
    exact g_iret hC rfl ⟨fun _ => rfl, fun z => absurd c1 z.1, rfl⟩ (by first | exact Nat.le_of_ble_eq_true rfl | omega | (simp only [gR]; omega)) (by first | exact Nat.le_of_ble_eq_true rfl | omega | (simp only [gR]; omega)) dX0_isInput_27
  · refine g_iload_n hC dX0_isInput_4 rfl ?_
    refine g_aload_n hC dX0_isInput_5 rfl ?_
    refine g_get hC fl_X0_14 (hW.o 6 (by decide)) rfl dX0_isInput_6 ?_
    refine g_alen hC 4 hI rfl dX0_isInput_9 ?_
    refine g_icmp_ge (tgt := 26) hC dX0_isInput_10 (by decide) (fun c2 => ?_) (fun c2 => ?_)
    · refine g_iconst (v := 0) hC dX0_isInput_26 rfl ?_
      exact g_iret hC rfl ⟨fun _ => rfl, fun z => absurd c2 z.2, rfl⟩ (by first | exact Nat.le_of_ble_eq_true rfl | omega | (simp only [gR]; omega)) (by first | exact Nat.le_of_ble_eq_true rfl | omega | (simp only [gR]; omega)) dX0_isInput_27
    · refine g_iload_n hC dX0_isInput_13 rfl ?_
      refine g_aload_n hC dX0_isInput_14 rfl ?_
      refine g_get hC fl_X0_20 (hW.o 6 (by decide)) rfl dX0_isInput_15 ?_
      refine g_alen hC 0 hW.p rfl dX0_isInput_18 ?_
      refine g_icmp_ge (tgt := 26) hC dX0_isInput_19 (by decide) (fun c3 => ?_) (fun c3 => ?_)
      · exact absurd c3 c2
      · refine g_iconst (v := 1) hC dX0_isInput_22 rfl ?_
        refine g_goto (tgt := 27) hC dX0_isInput_23 (by decide) ?_
        exact g_iret hC rfl ⟨fun z => absurd z (fun z => z.elim c1 c2), fun _ => rfl, rfl⟩ (by first | exact Nat.le_of_ble_eq_true rfl | omega | (simp only [gR]; omega)) (by first | exact Nat.le_of_ble_eq_true rfl | omega | (simp only [gR]; omega)) dX0_isInput_27
theorem dX0_isOutput_0 : decode cX0_isOutput 0 = .ok (.iload_n 1, 1) := by decide +kernel
theorem dX0_isOutput_1 : decode cX0_isOutput 1 = .ok (.ifCond .lt 16, 3) := by decide +kernel
theorem dX0_isOutput_4 : decode cX0_isOutput 4 = .ok (.iload_n 1, 1) := by decide +kernel
theorem dX0_isOutput_5 : decode cX0_isOutput 5 = .ok (.aload_n 0, 1) := by decide +kernel
theorem dX0_isOutput_6 : decode cX0_isOutput 6 = .ok (.getfield 24, 3) := by decide +kernel
theorem dX0_isOutput_9 : decode cX0_isOutput 9 = .ok (.arraylength, 1) := by decide +kernel
theorem dX0_isOutput_10 : decode cX0_isOutput 10 = .ok (.if_icmp .ge 7, 3) := by decide +kernel
theorem dX0_isOutput_13 : decode cX0_isOutput 13 = .ok (.iconst 1, 1) := by decide +kernel
theorem dX0_isOutput_14 : decode cX0_isOutput 14 = .ok (.goto 4, 3) := by decide +kernel
theorem dX0_isOutput_17 : decode cX0_isOutput 17 = .ok (.iconst 0, 1) := by decide +kernel
theorem dX0_isOutput_18 : decode cX0_isOutput 18 = .ok (.ireturn, 1) := by decide +kernel
set_option maxHeartbeats 4000000 in
set_option maxRecDepth 100000 in
theorem c_C_isOutput (l : Launch) (d : gD) (b : Nat) (Y : gYt) (F : gM) (S : gSt) (hW : gWT d Y F S) (i : Int32) : gMi l d b yX0_isOutput cX0_isOutput 2 .boolean 0 0 0 F [.ref (gO' Y 6), .int i] (fun r F' => (i < 0 ∨ nI 2 ≤ i → r = 0) ∧ (¬ i < 0 ∧ ¬ nI 2 ≤ i → r = 1) ∧ F' = F) := by
  refine gM_of2 rfl (nL := 2) (Nat.le_of_ble_eq_true rfl) ?_
  intro X hX hC; subst hX
  show gG X d b _ F 0 0 0 [some (.ref (gO' Y 6)), some (.int i)] []
  obtain ⟨⟨fI, hI, hI2⟩, fO, hO, hO2⟩ := id hW.2.2.2.1
  have hM0 : gSm S S [] [] := gSm.rf
  have hK0 : gKp Y F F := gKp.rf
  refine g_iload_n hC dX0_isOutput_0 rfl ?_
  refine g_if_lt (tgt := 17) hC dX0_isOutput_1 (by decide) (fun c1 => ?_) (fun c1 => ?_)
  · refine g_iconst (v := 0) hC dX0_isOutput_17 rfl ?_
    exact g_iret hC rfl ⟨fun _ => rfl, fun z => absurd c1 z.1, rfl⟩ (by first | exact Nat.le_of_ble_eq_true rfl | omega | (simp only [gR]; omega)) (by first | exact Nat.le_of_ble_eq_true rfl | omega | (simp only [gR]; omega)) dX0_isOutput_18
  · refine g_iload_n hC dX0_isOutput_4 rfl ?_
    refine g_aload_n hC dX0_isOutput_5 rfl ?_
    refine g_get hC fl_X0_24 (hW.o 6 (by decide)) rfl dX0_isOutput_6 ?_
    refine g_alen hC 4 hO rfl dX0_isOutput_9 ?_
    refine g_icmp_ge (tgt := 17) hC dX0_isOutput_10 (by decide) (fun c2 => ?_) (fun c2 => ?_)
    · refine g_iconst (v := 0) hC dX0_isOutput_17 rfl ?_
      exact g_iret hC rfl ⟨fun _ => rfl, fun z => absurd c2 z.2, rfl⟩ (by first | exact Nat.le_of_ble_eq_true rfl | omega | (simp only [gR]; omega)) (by first | exact Nat.le_of_ble_eq_true rfl | omega | (simp only [gR]; omega)) dX0_isOutput_18
    · refine g_iconst (v := 1) hC dX0_isOutput_13 rfl ?_
      refine g_goto (tgt := 18) hC dX0_isOutput_14 (by decide) ?_
      exact g_iret hC rfl ⟨fun z => absurd z (fun z => z.elim c1 c2), fun _ => rfl, rfl⟩ (by first | exact Nat.le_of_ble_eq_true rfl | omega | (simp only [gR]; omega)) (by first | exact Nat.le_of_ble_eq_true rfl | omega | (simp only [gR]; omega)) dX0_isOutput_18
theorem dX0_length_0 : decode cX0_length 0 = .ok (.aload_n 0, 1) := by decide +kernel
theorem dX0_length_1 : decode cX0_length 1 = .ok (.iload_n 1, 1) := by decide +kernel
theorem dX0_length_2 : decode cX0_length 2 = .ok (.invokevirtual 46, 3) := by decide +kernel
theorem dX0_length_5 : decode cX0_length 5 = .ok (.ifCond .eq 15, 3) := by decide +kernel
theorem dX0_length_8 : decode cX0_length 8 = .ok (.aload_n 0, 1) := by decide +kernel
theorem dX0_length_9 : decode cX0_length 9 = .ok (.getfield 24, 3) := by decide +kernel
theorem dX0_length_12 : decode cX0_length 12 = .ok (.iload_n 1, 1) := by decide +kernel
theorem dX0_length_13 : decode cX0_length 13 = .ok (.aaload, 1) := by decide +kernel
theorem dX0_length_14 : decode cX0_length 14 = .ok (.invokevirtual 42, 3) := by decide +kernel
theorem dX0_length_17 : decode cX0_length 17 = .ok (.goto 4, 3) := by decide +kernel
theorem dX0_length_20 : decode cX0_length 20 = .ok (.iconst (-1), 1) := by decide +kernel
theorem dX0_length_21 : decode cX0_length 21 = .ok (.ireturn, 1) := by decide +kernel
set_option maxHeartbeats 4000000 in
set_option maxRecDepth 100000 in
theorem c_C_length (l : Launch) (d : gD) (b : Nat) (Y : gYt) (F : gM) (S : gSt) (hW : gWT d Y F S) (i : Int32) : gMi l d b yX0_length cX0_length 2 .int 1 0 0 F [.ref (gO' Y 6), .int i] (fun r F' => (i < 0 ∨ nI 2 ≤ i → r = (-1)) ∧ (∀ j, j < 2 → i = nI j → r = nI (sZ S (38 + j))) ∧ F' = F) := by
  refine gM_of2 rfl (nL := 2) (Nat.le_of_ble_eq_true rfl) ?_
  intro X hX hC; subst hX
  show gG X d b _ F 0 0 0 [some (.ref (gO' Y 6)), some (.int i)] []
  obtain ⟨⟨fI, hI, hI2⟩, fO, hO, hO2⟩ := id hW.2.2.2.1
  have hM0 : gSm S S [] [] := gSm.rf
  have hK0 : gKp Y F F := gKp.rf
  refine g_aload_n hC dX0_length_0 rfl ?_
  refine g_iload_n hC dX0_length_1 rfl ?_
  refine g_callVi (As := [.int i]) hC rfl (hW.o 6 (by decide)) (c_C_isOutput X.la d b Y F S hW i) cl_X0_46 rfl rfl (Nat.le_of_ble_eq_true rfl) (gFit_of (Nat.le_of_ble_eq_true rfl) (Nat.le_of_ble_eq_true rfl) (by first | exact Nat.le_of_ble_eq_true rfl | omega | (simp only [gR]; omega)) (by first | exact Nat.le_of_ble_eq_true rfl | omega | (simp only [gR]; omega))) dX0_length_2 (fun r3 F1 p2 => ?_)
  obtain ⟨ar3, br3, er3⟩ := p2; have er3 := er3.symm; subst er3
  refine g_if_eq (tgt := 20) hC dX0_length_5 (by decide) (fun c4 => ?_) (fun c4 => ?_)
  · have hno : i < 0 ∨ nI 2 ≤ i := Classical.byContradiction fun z => by
      rw [br3 ⟨fun q => z (Or.inl q), fun q => z (Or.inr q)⟩] at c4
      exact absurd c4 (by decide)
    refine g_iconst (v := (-1)) hC dX0_length_20 rfl ?_
    exact g_iret hC rfl ⟨fun _ => rfl, fun j hj e => by rw [e] at hno; exact absurd hno (fun z => z.elim (nI_pos (by omega)) (fun z => absurd ((nI_leI (by omega) (by omega)).mp z) (by omega))), rfl⟩ (by first | exact Nat.le_of_ble_eq_true rfl | omega | (simp only [gR]; omega)) (by first | exact Nat.le_of_ble_eq_true rfl | omega | (simp only [gR]; omega)) dX0_length_21
  · have hc1 : ¬ i < 0 := fun q => c4 (ar3 (Or.inl q))
    have hc2 : ¬ nI 2 ≤ i := fun q => c4 (ar3 (Or.inr q))
    obtain ⟨j, hj, rfl⟩ : ∃ j : Nat, j < 2 ∧ i = nI j := by
      obtain ⟨j, hj, rfl⟩ := nI_of hc1
      exact ⟨j, Nat.not_le.mp (fun q => hc2 (nI_le q hj)), rfl⟩
    refine g_aload_n hC dX0_length_8 rfl ?_
    refine g_get hC fl_X0_24 (hW.o 6 (by decide)) rfl dX0_length_9 ?_
    refine g_iload_n hC dX0_length_12 rfl ?_
    refine g_aald hC hO (vp_in_nI hj (by decide)) dX0_length_13 ?_
    rw [nI_clamp (by omega), hO2 j hj]
    refine g_callVi (As := []) hC rfl (hW.r (38 + j) (by omega)).1 (c_Ints_size X.la d b F _ _ _ _ _ _ (hW.r (38 + j) (by omega))) cl_X0_42 rfl rfl (Nat.le_of_ble_eq_true rfl) (gFit_of (Nat.le_of_ble_eq_true rfl) (Nat.le_of_ble_eq_true rfl) (by first | exact Nat.le_of_ble_eq_true rfl | omega | (simp only [gR]; omega)) (by first | exact Nat.le_of_ble_eq_true rfl | omega | (simp only [gR]; omega))) dX0_length_14 (fun r5 F6 p7 => ?_)
    obtain ⟨rfl, eF6⟩ := p7; have eF6 := eF6.symm; subst eF6
    refine g_goto (tgt := 21) hC dX0_length_17 (by decide) ?_
    exact g_iret hC rfl ⟨fun z => absurd z (fun z => z.elim hc1 hc2), fun j2 hj2 e => by rw [(nI_eq (by omega) (by omega)).mp e], rfl⟩ (by first | exact Nat.le_of_ble_eq_true rfl | omega | (simp only [gR]; omega)) (by first | exact Nat.le_of_ble_eq_true rfl | omega | (simp only [gR]; omega)) dX0_length_21
theorem dX11_out_0 : decode cX11_out 0 = .ok (.aload_n 0, 1) := by decide +kernel
theorem dX11_out_1 : decode cX11_out 1 = .ok (.getfield 62, 3) := by decide +kernel
theorem dX11_out_4 : decode cX11_out 4 = .ok (.iload_n 1, 1) := by decide +kernel
theorem dX11_out_5 : decode cX11_out 5 = .ok (.invokevirtual 144, 3) := by decide +kernel
theorem dX11_out_8 : decode cX11_out 8 = .ok (.ireturn, 1) := by decide +kernel
set_option maxHeartbeats 4000000 in
set_option maxRecDepth 100000 in
theorem c_W_out (l : Launch) (d : gD) (b : Nat) (Y : gYt) (F : gM) (S : gSt) (hW : gWT d Y F S) (i : Int32) : gMi l d b yX11_out cX11_out 2 .int 2 0 0 F [.ref (gO' Y 0), .int i] (fun r F' => (i < 0 ∨ nI 2 ≤ i → r = (-1)) ∧ (∀ j, j < 2 → i = nI j → r = nI (sZ S (38 + j))) ∧ F' = F) := by
  refine gM_of2 rfl (nL := 2) (Nat.le_of_ble_eq_true rfl) ?_
  intro X hX hC; subst hX
  show gG X d b _ F 0 0 0 [some (.ref (gO' Y 0)), some (.int i)] []
  have hM0 : gSm S S [] [] := gSm.rf
  have hK0 : gKp Y F F := gKp.rf
  refine g_aload_n hC dX11_out_0 rfl ?_
  refine g_get hC fl_X11_62 (hW.o 0 (by decide)) rfl dX11_out_1 ?_
  refine g_iload_n hC dX11_out_4 rfl ?_
  refine g_callVi (As := [.int i]) hC rfl (hW.o 6 (by decide)) (c_C_length X.la d b Y F S hW i) cl_X11_144 rfl rfl (Nat.le_of_ble_eq_true rfl) (gFit_of (Nat.le_of_ble_eq_true rfl) (Nat.le_of_ble_eq_true rfl) (by first | exact Nat.le_of_ble_eq_true rfl | omega | (simp only [gR]; omega)) (by first | exact Nat.le_of_ble_eq_true rfl | omega | (simp only [gR]; omega))) dX11_out_5 (fun r3 F1 p2 => ?_)
  obtain ⟨ar3, br3, er3⟩ := p2; have er3 := er3.symm; subst er3
  exact g_iret hC rfl ⟨ar3, br3, rfl⟩ (by first | exact Nat.le_of_ble_eq_true rfl | omega | (simp only [gR]; omega)) (by first | exact Nat.le_of_ble_eq_true rfl | omega | (simp only [gR]; omega)) dX11_out_8
theorem dX5_isThere_0 : decode cX5_isThere 0 = .ok (.iload_n 1, 1) := by decide +kernel
theorem dX5_isThere_1 : decode cX5_isThere 1 = .ok (.ifCond .lt 24, 3) := by decide +kernel
theorem dX5_isThere_4 : decode cX5_isThere 4 = .ok (.iload_n 1, 1) := by decide +kernel
theorem dX5_isThere_5 : decode cX5_isThere 5 = .ok (.aload_n 0, 1) := by decide +kernel
theorem dX5_isThere_6 : decode cX5_isThere 6 = .ok (.getfield 35, 3) := by decide +kernel
theorem dX5_isThere_9 : decode cX5_isThere 9 = .ok (.if_icmp .ge 16, 3) := by decide +kernel
theorem dX5_isThere_12 : decode cX5_isThere 12 = .ok (.iload_n 1, 1) := by decide +kernel
theorem dX5_isThere_13 : decode cX5_isThere 13 = .ok (.aload_n 0, 1) := by decide +kernel
theorem dX5_isThere_14 : decode cX5_isThere 14 = .ok (.getfield 31, 3) := by decide +kernel
theorem dX5_isThere_17 : decode cX5_isThere 17 = .ok (.arraylength, 1) := by decide +kernel
theorem dX5_isThere_18 : decode cX5_isThere 18 = .ok (.if_icmp .ge 7, 3) := by decide +kernel
theorem dX5_isThere_21 : decode cX5_isThere 21 = .ok (.iconst 1, 1) := by decide +kernel
theorem dX5_isThere_22 : decode cX5_isThere 22 = .ok (.goto 4, 3) := by decide +kernel
theorem dX5_isThere_25 : decode cX5_isThere 25 = .ok (.iconst 0, 1) := by decide +kernel
theorem dX5_isThere_26 : decode cX5_isThere 26 = .ok (.ireturn, 1) := by decide +kernel
set_option maxHeartbeats 4000000 in
set_option maxRecDepth 100000 in
theorem c_M_isThere0 (l : Launch) (d : gD) (b : Nat) (Y : gYt) (F : gM) (S : gSt) (hW : gWT d Y F S) (hv27 : sV S 27 = 0) (i : Int32) : gMi l d b yX5_isThere cX5_isThere 2 .boolean 0 0 0 F [.ref (gO' Y 7), .int i] (fun r F' => r = 0 ∧ F' = F) := by
  refine gM_of2 rfl (nL := 2) (Nat.le_of_ble_eq_true rfl) ?_
  intro X hX hC; subst hX
  show gG X d b _ F 0 0 0 [some (.ref (gO' Y 7)), some (.int i)] []
  obtain ⟨⟨fI, hI, hI2⟩, fO, hO, hO2⟩ := id hW.2.2.2.1
  have hM0 : gSm S S [] [] := gSm.rf
  have hK0 : gKp Y F F := gKp.rf
  refine g_iload_n hC dX5_isThere_0 rfl ?_
  refine g_if_lt (tgt := 25) hC dX5_isThere_1 (by decide) (fun c1 => ?_) (fun c1 => ?_)
  · refine g_iconst (v := 0) hC dX5_isThere_25 rfl ?_
    exact g_iret hC rfl ⟨rfl, rfl⟩ (by first | exact Nat.le_of_ble_eq_true rfl | omega | (simp only [gR]; omega)) (by first | exact Nat.le_of_ble_eq_true rfl | omega | (simp only [gR]; omega)) dX5_isThere_26
  · refine g_iload_n hC dX5_isThere_4 rfl ?_
    refine g_aload_n hC dX5_isThere_5 rfl ?_
    refine g_get hC fl_X5_35 (hW.o 7 (by decide)) rfl dX5_isThere_6 ?_
    refine g_icmp_ge (tgt := 25) hC dX5_isThere_9 (by decide) (fun c2 => ?_) (fun c2 => ?_)
    · refine g_iconst (v := 0) hC dX5_isThere_25 rfl ?_
      exact g_iret hC rfl ⟨rfl, rfl⟩ (by first | exact Nat.le_of_ble_eq_true rfl | omega | (simp only [gR]; omega)) (by first | exact Nat.le_of_ble_eq_true rfl | omega | (simp only [gR]; omega)) dX5_isThere_26
    · exact absurd (hv27 ▸ (Int32.not_lt.mp c1 : (0 : Int32) ≤ i)) c2
theorem dX5_left_0 : decode cX5_left 0 = .ok (.aload_n 0, 1) := by decide +kernel
theorem dX5_left_1 : decode cX5_left 1 = .ok (.iload_n 1, 1) := by decide +kernel
theorem dX5_left_2 : decode cX5_left 2 = .ok (.invokevirtual 75, 3) := by decide +kernel
theorem dX5_left_5 : decode cX5_left 5 = .ok (.ifCond .eq 12, 3) := by decide +kernel
theorem dX5_left_8 : decode cX5_left 8 = .ok (.aload_n 0, 1) := by decide +kernel
theorem dX5_left_9 : decode cX5_left 9 = .ok (.getfield 31, 3) := by decide +kernel
theorem dX5_left_12 : decode cX5_left 12 = .ok (.iload_n 1, 1) := by decide +kernel
theorem dX5_left_13 : decode cX5_left 13 = .ok (.iaload, 1) := by decide +kernel
theorem dX5_left_14 : decode cX5_left 14 = .ok (.goto 4, 3) := by decide +kernel
theorem dX5_left_17 : decode cX5_left 17 = .ok (.iconst 0, 1) := by decide +kernel
theorem dX5_left_18 : decode cX5_left 18 = .ok (.ireturn, 1) := by decide +kernel
set_option maxHeartbeats 4000000 in
set_option maxRecDepth 100000 in
theorem c_M_left0 (l : Launch) (d : gD) (b : Nat) (Y : gYt) (F : gM) (S : gSt) (hW : gWT d Y F S) (hv27 : sV S 27 = 0) (i : Int32) : gMi l d b yX5_left cX5_left 2 .int 1 0 0 F [.ref (gO' Y 7), .int i] (fun r F' => r = 0 ∧ F' = F) := by
  refine gM_of2 rfl (nL := 2) (Nat.le_of_ble_eq_true rfl) ?_
  intro X hX hC; subst hX
  show gG X d b _ F 0 0 0 [some (.ref (gO' Y 7)), some (.int i)] []
  obtain ⟨⟨fI, hI, hI2⟩, fO, hO, hO2⟩ := id hW.2.2.2.1
  have hM0 : gSm S S [] [] := gSm.rf
  have hK0 : gKp Y F F := gKp.rf
  refine g_aload_n hC dX5_left_0 rfl ?_
  refine g_iload_n hC dX5_left_1 rfl ?_
  refine g_callVi (As := [.int i]) hC rfl (hW.o 7 (by decide)) (c_M_isThere0 X.la d b Y F S hW hv27 i) cl_X5_75 rfl rfl (Nat.le_of_ble_eq_true rfl) (gFit_of (Nat.le_of_ble_eq_true rfl) (Nat.le_of_ble_eq_true rfl) (by first | exact Nat.le_of_ble_eq_true rfl | omega | (simp only [gR]; omega)) (by first | exact Nat.le_of_ble_eq_true rfl | omega | (simp only [gR]; omega))) dX5_left_2 (fun r3 F1 p2 => ?_)
  obtain ⟨rfl, eF1⟩ := p2; have eF1 := eF1.symm; subst eF1
  refine g_if_eq (tgt := 17) hC dX5_left_5 (by decide) (fun c4 => ?_) (fun c4 => ?_)
  · refine g_iconst (v := 0) hC dX5_left_17 rfl ?_
    exact g_iret hC rfl ⟨rfl, rfl⟩ (by first | exact Nat.le_of_ble_eq_true rfl | omega | (simp only [gR]; omega)) (by first | exact Nat.le_of_ble_eq_true rfl | omega | (simp only [gR]; omega)) dX5_left_18
  · exact absurd rfl c4
