theorem kw_1593 : Cond.methodLink RX11 120 yX7_words ∈ gWs := List.mem_filter.mpr ⟨gMt6 _ (List.mem_of_getElem? (i := 156) rfl), rfl⟩
theorem cl_X11_120 : gCV RX11 120 yX7_words cX7_words 1 (some .int) 0 := ⟨g_mk [.methodLink RX11 120 yX7_words, .instanceMethod yX7_words, .selects yX7_words.cls yX7_words yX7_words, .initialized yX7_words.cls] (gWs_all kw_1212) (List.forall_mem_cons.mpr ⟨kw_1593, List.forall_mem_cons.mpr ⟨kw_1210, List.forall_mem_cons.mpr ⟨kw_1211, List.forall_mem_cons.mpr ⟨kw_240, fun _ h => nomatch h⟩⟩⟩⟩), rfl, by decide +kernel, by decide +kernel, by decide +kernel⟩
theorem kw_804 : Cond.fieldLink RX11 55 "WordTongue" "coder" "LWordTongue$Coder;" ∈ gWs := List.mem_filter.mpr ⟨gMt3 _ (List.mem_of_getElem? (i := 87) rfl), rfl⟩
theorem fl_X11_55 : gFL RX11 55 11 5 (.object "WordTongue$Coder") true := ⟨RX11, TX11, 10, tyX11, rfl, by decide, inW_RX11, kw_804, tyX11_ok, nmX11, rfl, by decide +kernel, fun _ => rfl⟩
theorem kw_1265 : Cond.code yX6_root cX6_root 1 (some .int) ∈ gWs := List.mem_filter.mpr ⟨gMt5 _ (List.mem_of_getElem? (i := 68) rfl), rfl⟩
theorem kw_1262 : Cond.methodLink RX11 105 yX6_root ∈ gWs := List.mem_filter.mpr ⟨gMt5 _ (List.mem_of_getElem? (i := 65) rfl), rfl⟩
theorem kw_1263 : Cond.instanceMethod yX6_root ∈ gWs := List.mem_filter.mpr ⟨gMt5 _ (List.mem_of_getElem? (i := 66) rfl), rfl⟩
theorem kw_1264 : Cond.selects RX6 yX6_root yX6_root ∈ gWs := List.mem_filter.mpr ⟨gMt5 _ (List.mem_of_getElem? (i := 67) rfl), rfl⟩
theorem cl_X11_105 : gCV RX11 105 yX6_root cX6_root 1 (some .int) 0 := ⟨g_mk [.methodLink RX11 105 yX6_root, .instanceMethod yX6_root, .selects yX6_root.cls yX6_root yX6_root, .initialized yX6_root.cls] (gWs_all kw_1265) (List.forall_mem_cons.mpr ⟨kw_1262, List.forall_mem_cons.mpr ⟨kw_1263, List.forall_mem_cons.mpr ⟨kw_1264, List.forall_mem_cons.mpr ⟨kw_250, fun _ h => nomatch h⟩⟩⟩⟩), rfl, by decide +kernel, by decide +kernel, by decide +kernel⟩
theorem kw_1269 : Cond.code yX1_translate cX1_translate 3 none ∈ gWs := List.mem_filter.mpr ⟨gMt5 _ (List.mem_of_getElem? (i := 72) rfl), rfl⟩
theorem kw_1266 : Cond.methodLink RX11 108 yX1_translate ∈ gWs := List.mem_filter.mpr ⟨gMt5 _ (List.mem_of_getElem? (i := 69) rfl), rfl⟩
theorem kw_1267 : Cond.instanceMethod yX1_translate ∈ gWs := List.mem_filter.mpr ⟨gMt5 _ (List.mem_of_getElem? (i := 70) rfl), rfl⟩
theorem kw_1268 : Cond.selects RX1 yX1_translate yX1_translate ∈ gWs := List.mem_filter.mpr ⟨gMt5 _ (List.mem_of_getElem? (i := 71) rfl), rfl⟩
theorem cl_X11_108 : gCV RX11 108 yX1_translate cX1_translate 3 none 1 := ⟨g_mk [.methodLink RX11 108 yX1_translate, .instanceMethod yX1_translate, .selects yX1_translate.cls yX1_translate yX1_translate, .initialized yX1_translate.cls] (gWs_all kw_1269) (List.forall_mem_cons.mpr ⟨kw_1266, List.forall_mem_cons.mpr ⟨kw_1267, List.forall_mem_cons.mpr ⟨kw_1268, List.forall_mem_cons.mpr ⟨kw_251, fun _ h => nomatch h⟩⟩⟩⟩), rfl, by decide +kernel, by decide +kernel, by decide +kernel⟩
/-! the class's own calls -/
theorem cl_X11_101 : gCVW RX11 101 yX6_reads cX6_reads 2 (some .boolean) [(41, 50, 51, 80)] 0 := ⟨g_mk [.methodLink RX11 101 yX6_reads, .instanceMethod yX6_reads, .selects yX6_reads.cls yX6_reads yX6_reads, .initialized yX6_reads.cls] (gWs_allW kw_949) (List.forall_mem_cons.mpr ⟨kw_946, List.forall_mem_cons.mpr ⟨kw_947, List.forall_mem_cons.mpr ⟨kw_948, List.forall_mem_cons.mpr ⟨kw_250, fun _ h => nomatch h⟩⟩⟩⟩), rfl, by decide +kernel, by decide +kernel, by decide +kernel⟩
section YW
variable {own : String} {cc : ByteArray} {nL : Nat} {rt : Option FieldType} {nm : String} {R : Room} {d : gD} {b : Nat} {X : gX} {Q : State → Prop} {pc : Nat} {lv : List (Option Value)} {st : List Value} {Y : gYt} {c c' : Nat × Nat} {F0 : gM} {S0 : gSt} {u : hU} {S : gSt} {A : cS}
theorem yr_callVW (hC : gC own cc nL rt nm R d b X) (hr : hRm X b) (ho : yOk X b u) (h : yZ d b Y c F0 S0 u S A) {y : MethodName} {c2 : ByteArray} {mL nA lvl idx : Nat} {rt0 : FieldType} {hh : List (Nat × Nat × Nat × Nat)} {a ci N0 : Nat} {T0 : u_T} {v0 : Value} {fs : List Value} {As : List Value} {q : Int → cS → Prop} (hc : vwCl[ci]? = some (y.cls, T0, N0)) (hF : u.1 a = .inr (ci, v0 :: fs)) (hm : ∀ mc ms, Met X.la y (.codeWith y c2 mL (some rt0) hh :: gWs) (gR lvl mc ms) (va_Pc (.ref a :: As) (hP d b u.1 u.2.1 u.2.2 mc ms)) (va_Qi (yPi d b Y c' u.1 S q) (hB d b) (fun q => b ≤ q)) mc ms (fun q => b ≤ q)) (hl : gCVW own idx y c2 mL (some rt0) hh nA) (hA : As.length = nA) (hn : nL = lv.length) (hcat : (st.map fun v => v.category).sum ≤ 8) (hf : hFr R lvl mL) (hdg : decode cc pc = .ok (.invokevirtual idx, 3)) (kk : ∀ (e : Int) (A' : cS) (u' : hU) (S' : gSt), zR e → yOk X b u' → yZ d b Y c' F0 S0 u' S' A' → q e A' → yG X d b Q u' (pc + 3) lv (.int (zI e) :: st)) : yG X d b Q u pc lv (As.reverse ++ .ref a :: st) := by
  refine h_callVWi hC hr ho hc hF hm hl hA hn hcat hf hdg (fun r u' hp ho' => ?_)
  obtain ⟨e, A', S', e1, e2, e3, e4⟩ := hp
  subst e1
  exact kk e A' u' S' e2 ho' (h.trx e3) e4
theorem yr_add0 (hC : gC own cc nL rt nm R d b X) (hr : hRm X b) (ho : yOk X b u) (h : yZ d b Y c F0 S0 u S A) {idx : Nat} {x : Int} (hx : zR x) (hb : yz A 0 < 6000) (hl : gCV own idx yX4_add cX4_add 2 none 1) (hn : nL = lv.length) (hcat : (st.map fun v => v.category).sum ≤ 8) (hf : hFr R 2 2) (hdg : decode cc pc = .ok (.invokevirtual idx, 3)) (kk : ∀ (u' : hU) (S' : gSt), yOk X b u' → yZ d b Y c F0 S0 u' S' (yadd A 0 x) → yG X d b Q u' (pc + 3) lv st) : yG X d b Q u pc lv (.int (zI x) :: .ref (gA' Y 0) :: st) := by
  have hrow := h.w.r 0 (by decide)
  have hps := h.2.1.psi
  have g0 : gmo 0 = 6000 := rfl
  have hz : sZ S 0 < gmo 0 := by rw [h.z 0, g0]; exact hb
  have egm : gAm = 256000 := rfl
  have ha : gAk S 0 := ⟨fun q => absurd q.1 (by decide), fun e => absurd e (by decide), by omega⟩
  obtain ⟨a1, a2⟩ := h.hi.add_pre (F := u.1) (k := u.2.1) (n := u.2.2) (by decide : 0 < 44) ha hz
  refine g_callVv (As := [.int (zI x)]) hC rfl hrow.1 (c_Ints_add X.la d b u.1 _ _ _ _ _ _ hrow (zI x)) hl rfl hn hcat (h_fit hC hr ho hf a1 a2) hdg (fun F' hp => h_to hC ho a1 a2 (fun ho' => ?_))
  obtain ⟨S', w1, w2, w3, w4, w5⟩ := wt_add h.w (by decide : 0 < 44) hp
  obtain ⟨v1, v2, v3, v4⟩ := w4 hz
  obtain ⟨t1, t2, t3, t4, t5⟩ := h.hi.add_sz (by decide : 0 < 44) ha hz S' (fun i hi' => ⟨w3.n i (by simpa using hi'), w3.z i (by simpa using hi')⟩) v1 v2
  have p1 := h.hi.2.2.1
  have p2 := h.hi.2.2.2.1
  refine kk (F', u.2.1 + gAc (sN S 0) (sZ S 0), u.2.2 + gAs (gmo 0) (sN S 0) (sZ S 0)) S' ho' ?_
  have hz2 := h.z 0
  refine h.row (by decide : 0 < 34) ⟨w1, t1.2.1, by show u.2.1 + _ ≤ _; omega, by show u.2.2 + _ ≤ _; omega, h.hi.2.2.2.2⟩ w2 w3 (fun k hk => if_neg hk) (fun k hk => ?_) rfl ?_ (fun i hi2 => ?_) (fun i => ?_) (fun q => absurd q (by decide))
  · funext m
    show (if k = 0 then _ else _) = _
    rw [if_neg hk]
  · show sZ S' 0 = (if 0 = 0 then A.1 0 + 1 else A.1 0)
    rw [if_pos rfl, v1, hz2]
    rfl
  · have hi3 : i < A.1 0 + 1 := hi2
    show sF S' 0 i = zI (if 0 = 0 then (if i = A.1 0 then x else A.2.1 0 i) else A.2.1 0 i)
    rw [if_pos rfl]
    by_cases e : i = A.1 0
    · rw [if_pos e, e]
      have e2 : sZ S 0 = A.1 0 := hz2
      rw [← e2]
      exact v4
    · rw [if_neg e, v3 i (by rw [hz2]; show i < A.1 0; omega)]
      exact h.2.1.2.1 0 i (by omega)
  · show zR (if 0 = 0 then (if i = A.1 0 then x else A.2.1 0 i) else A.2.1 0 i)
    rw [if_pos rfl]
    split
    · exact hx
    · exact h.rf' 0 i
end YW
theorem dX11_addBytes_0 : decode cX11_addBytes 0 = .ok (.bipush 24, 2) := by decide +kernel
theorem dX11_addBytes_2 : decode cX11_addBytes 2 = .ok (.istore_n 2, 1) := by decide +kernel
theorem dX11_addBytes_3 : decode cX11_addBytes 3 = .ok (.iload_n 2, 1) := by decide +kernel
theorem dX11_addBytes_4 : decode cX11_addBytes 4 = .ok (.ifCond .lt 23, 3) := by decide +kernel
theorem dX11_addBytes_7 : decode cX11_addBytes 7 = .ok (.aload_n 0, 1) := by decide +kernel
theorem dX11_addBytes_8 : decode cX11_addBytes 8 = .ok (.getfield 14, 3) := by decide +kernel
theorem dX11_addBytes_11 : decode cX11_addBytes 11 = .ok (.iload_n 1, 1) := by decide +kernel
theorem dX11_addBytes_12 : decode cX11_addBytes 12 = .ok (.iload_n 2, 1) := by decide +kernel
theorem dX11_addBytes_13 : decode cX11_addBytes 13 = .ok (.iushr, 1) := by decide +kernel
theorem dX11_addBytes_14 : decode cX11_addBytes 14 = .ok (.sipush 255, 3) := by decide +kernel
theorem dX11_addBytes_17 : decode cX11_addBytes 17 = .ok (.iand, 1) := by decide +kernel
theorem dX11_addBytes_18 : decode cX11_addBytes 18 = .ok (.invokevirtual 89, 3) := by decide +kernel
theorem dX11_addBytes_21 : decode cX11_addBytes 21 = .ok (.iinc 2 (-8), 3) := by decide +kernel
theorem dX11_addBytes_24 : decode cX11_addBytes 24 = .ok (.goto (-21), 3) := by decide +kernel
theorem dX11_addBytes_27 : decode cX11_addBytes 27 = .ok (.return_, 1) := by decide +kernel
def wc_W_addBytes_3B (Q : cS → Prop) (k3 : cS → Int → Int → Prop) (A0 : cS) (x1 : Int) (x2 : Int) : Prop :=
  ((x2 < 0 → Q A0) ∧ (¬ x2 < 0 → ((yz A0 0) < 6000) ∧ (zR (x2 + (-8))) ∧ k3 (yadd A0 0 (zan (zus x1 x2) 255)) x1 (x2 + (-8))))
def wc_W_addBytes_3 (Q : cS → Prop)  : Nat → cS → Int → Int → Prop
  | 0 => fun _ _ _ => False
  | m + 1 => fun A0 x1 x2 => wc_W_addBytes_3B Q  (wc_W_addBytes_3 Q  m) A0 x1 x2
def wc_W_addBytes (A0 : cS) (a0 : Int) (Q : cS → Prop) : Prop :=
  ∃ n, wc_W_addBytes_3 Q  n A0 a0 24
set_option maxHeartbeats 4000000 in
set_option maxRecDepth 100000 in
theorem cb_W_addBytes_3 {X : gX} {d : gD} {b : Nat} {Y : gYt} {c : Nat × Nat} {F0 : gM} {S0 : gSt} {mc ms : Nat} (hC : gC RX11 cX11_addBytes 3 none "addBytes" (gR 3 mc ms) d b X) (hr : hRm X b) {Q : cS → Prop} {k3 : cS → Int → Int → Prop} (hk3 : ∀ (u : hU) (S : gSt) (A0 : cS) (x1 : Int) (x2 : Int), zR x1 → zR x2 → yOk X b u → yZ d b Y c F0 S0 u S A0 → k3 A0 x1 x2 → yG X d b (yQv X d b Y c F0 S0 mc ms Q) u 3 [some (.ref (gO' Y 0)), some (.int (zI x1)), some (.int (zI x2))] []) {u : hU} {S : gSt} {A0 : cS} {x1 : Int} {x2 : Int} (Rx1 : zR x1) (Rx2 : zR x2) (ho : yOk X b u) (hZ : yZ d b Y c F0 S0 u S A0) (hw : wc_W_addBytes_3B Q k3 A0 x1 x2) : yG X d b (yQv X d b Y c F0 S0 mc ms Q) u 3 [some (.ref (gO' Y 0)), some (.int (zI x1)), some (.int (zI x2))] [] := by
  unfold wc_W_addBytes_3B at hw
  refine h_iload_n hC dX11_addBytes_3 rfl ?_
  refine yr_if_lt (tgt := 27) hC Rx2 dX11_addBytes_4 (by decide) (fun c1 => ?_) (fun c1 => ?_)
  · have h2 := hw.1 c1
    exact yr_vret hC hr ho hZ h2 dX11_addBytes_27
  · have h3 := hw.2 c1
    refine h_aload_n hC dX11_addBytes_7 rfl ?_
    refine h_get hC fl_X11_14 (hZ.w.o 0 (by decide)) rfl dX11_addBytes_8 ?_
    refine h_iload_n hC dX11_addBytes_11 rfl ?_
    refine h_iload_n hC dX11_addBytes_12 rfl ?_
    refine yr_iushr hC dX11_addBytes_13 ?_
    refine h_sipush (v := zI 255) hC dX11_addBytes_14 rfl ?_
    refine yr_iand hC dX11_addBytes_17 ?_
    obtain ⟨o4, h5⟩ := h3
    refine yr_add0 hC hr ho hZ (zR_t _) o4 cl_X11_89 rfl (Nat.le_of_ble_eq_true rfl) (hFr_of (Nat.le_of_ble_eq_true rfl) (Nat.le_of_ble_eq_true rfl)) dX11_addBytes_18 (fun u6 S7 o8 hZ9 => ?_)
    refine yr_iinc (x := x2) (lv' := [some (.ref (gO' Y 0)), some (.int (zI x1)), some (.int (zI (x2 + (-8))))]) hC dX11_addBytes_21 rfl rfl rfl ?_
    refine h_goto (tgt := 3) hC dX11_addBytes_24 (by decide) ?_
    obtain ⟨o10, h11⟩ := h5
    exact hk3 _ _ _ _ _ Rx1 o10 o8 hZ9 h11
theorem cl_W_addBytes_3 {X : gX} {d : gD} {b : Nat} {Y : gYt} {c : Nat × Nat} {F0 : gM} {S0 : gSt} {mc ms : Nat} (hC : gC RX11 cX11_addBytes 3 none "addBytes" (gR 3 mc ms) d b X) (hr : hRm X b) {Q : cS → Prop}   : ∀ (m : Nat) (u : hU) (S : gSt) (A0 : cS) (x1 : Int) (x2 : Int), zR x1 → zR x2 → yOk X b u → yZ d b Y c F0 S0 u S A0 → wc_W_addBytes_3 Q  m A0 x1 x2 → yG X d b (yQv X d b Y c F0 S0 mc ms Q) u 3 [some (.ref (gO' Y 0)), some (.int (zI x1)), some (.int (zI x2))] [] := by
  intro m
  induction m with
  | zero => intro u S A0 x1 x2 Rx1 Rx2 ho hZ hw; exact False.elim hw
  | succ m ihm => intro u S A0 x1 x2 Rx1 Rx2 ho hZ hw; exact cb_W_addBytes_3 hC hr  ihm Rx1 Rx2 ho hZ hw
set_option maxHeartbeats 4000000 in
set_option maxRecDepth 100000 in
theorem cm_W_addBytes (l : Launch) (d : gD) (b : Nat) {Y : gYt} {c : Nat × Nat} {F : gM} {k n : Nat} {S : gSt} {A0 : cS} {a0 : Int} (Ra0 : zR a0) {Q : cS → Prop} (hZ : yZ d b Y c F S (F, k, n) S A0) (hw : wc_W_addBytes A0 a0 Q) : hMv l d b yX11_addBytes cX11_addBytes 3 3 k n F [.ref (gO' Y 0), .int (zI a0)] (yPv d b Y c F S Q) := by
  intro mc ms
  refine hM_of2 rfl (nL := 3) (Nat.le_of_ble_eq_true rfl) ?_
  intro X hX hC hr ho; subst hX
  show yG X d b (yQv X d b Y c F S mc ms Q) (F, k, n) 0 [some (.ref (gO' Y 0)), some (.int (zI a0)), none] []
  unfold wc_W_addBytes at hw
  refine h_bipush (v := zI 24) hC dX11_addBytes_0 rfl ?_
  refine h_istore_n (lv' := [some (.ref (gO' Y 0)), some (.int (zI a0)), some (.int (zI 24))]) hC dX11_addBytes_2 (Nat.le_of_ble_eq_true rfl) rfl rfl ?_
  obtain ⟨m1, h2⟩ := hw
  exact cl_W_addBytes_3 hC hr  m1 _ _ _ _ _ Ra0 (by decide) ho hZ h2
theorem dX11_feed_0 : decode cX11_feed 0 = .ok (.aload_n 0, 1) := by decide +kernel
theorem dX11_feed_1 : decode cX11_feed 1 = .ok (.getfield 14, 3) := by decide +kernel
theorem dX11_feed_4 : decode cX11_feed 4 = .ok (.invokevirtual 82, 3) := by decide +kernel
theorem dX11_feed_7 : decode cX11_feed 7 = .ok (.bipush 20, 2) := by decide +kernel
theorem dX11_feed_9 : decode cX11_feed 9 = .ok (.iadd, 1) := by decide +kernel
theorem dX11_feed_10 : decode cX11_feed 10 = .ok (.sipush 6000, 3) := by decide +kernel
theorem dX11_feed_13 : decode cX11_feed 13 = .ok (.if_icmp .le 5, 3) := by decide +kernel
theorem dX11_feed_16 : decode cX11_feed 16 = .ok (.iconst 0, 1) := by decide +kernel
theorem dX11_feed_17 : decode cX11_feed 17 = .ok (.ireturn, 1) := by decide +kernel
theorem dX11_feed_18 : decode cX11_feed 18 = .ok (.aload_n 0, 1) := by decide +kernel
theorem dX11_feed_19 : decode cX11_feed 19 = .ok (.iload_n 1, 1) := by decide +kernel
theorem dX11_feed_20 : decode cX11_feed 20 = .ok (.invokevirtual 86, 3) := by decide +kernel
theorem dX11_feed_23 : decode cX11_feed 23 = .ok (.aload_n 0, 1) := by decide +kernel
theorem dX11_feed_24 : decode cX11_feed 24 = .ok (.iload_n 2, 1) := by decide +kernel
theorem dX11_feed_25 : decode cX11_feed 25 = .ok (.invokevirtual 86, 3) := by decide +kernel
theorem dX11_feed_28 : decode cX11_feed 28 = .ok (.aload_n 0, 1) := by decide +kernel
theorem dX11_feed_29 : decode cX11_feed 29 = .ok (.iload_n 3, 1) := by decide +kernel
theorem dX11_feed_30 : decode cX11_feed 30 = .ok (.invokevirtual 86, 3) := by decide +kernel
theorem dX11_feed_33 : decode cX11_feed 33 = .ok (.aload_n 0, 1) := by decide +kernel
theorem dX11_feed_34 : decode cX11_feed 34 = .ok (.iload 4, 2) := by decide +kernel
theorem dX11_feed_36 : decode cX11_feed 36 = .ok (.invokevirtual 86, 3) := by decide +kernel
theorem dX11_feed_39 : decode cX11_feed 39 = .ok (.aload_n 0, 1) := by decide +kernel
theorem dX11_feed_40 : decode cX11_feed 40 = .ok (.iload 5, 2) := by decide +kernel
theorem dX11_feed_42 : decode cX11_feed 42 = .ok (.invokevirtual 86, 3) := by decide +kernel
theorem dX11_feed_45 : decode cX11_feed 45 = .ok (.iconst 1, 1) := by decide +kernel
theorem dX11_feed_46 : decode cX11_feed 46 = .ok (.ireturn, 1) := by decide +kernel
def wc_W_feed (A0 : cS) (a0 : Int) (a1 : Int) (a2 : Int) (a3 : Int) (a4 : Int) (Q : Int → cS → Prop) : Prop :=
  (zR (((yz A0 0 : Nat) : Int) + 20)) ∧ (((((yz A0 0 : Nat) : Int) + 20) ≤ 6000 → wc_W_addBytes A0 a0 (fun A6 => wc_W_addBytes A6 a1 (fun A14 => wc_W_addBytes A14 a2 (fun A22 => wc_W_addBytes A22 a3 (fun A30 => wc_W_addBytes A30 a4 (fun A38 => Q 1 A38)))))) ∧ (¬ (((yz A0 0 : Nat) : Int) + 20) ≤ 6000 → Q 0 A0))
set_option maxHeartbeats 4000000 in
set_option maxRecDepth 100000 in
theorem cm_W_feed (l : Launch) (d : gD) (b : Nat) {Y : gYt} {c : Nat × Nat} {F : gM} {k n : Nat} {S : gSt} {A0 : cS} {a0 : Int} {a1 : Int} {a2 : Int} {a3 : Int} {a4 : Int} (Ra0 : zR a0) (Ra1 : zR a1) (Ra2 : zR a2) (Ra3 : zR a3) (Ra4 : zR a4) {Q : Int → cS → Prop} (hZ : yZ d b Y c F S (F, k, n) S A0) (hw : wc_W_feed A0 a0 a1 a2 a3 a4 Q) : hMi l d b yX11_feed cX11_feed 6 .boolean 4 k n F [.ref (gO' Y 0), .int (zI a0), .int (zI a1), .int (zI a2), .int (zI a3), .int (zI a4)] (yPi d b Y c F S Q) := by
  intro mc ms
  refine hM_of2 rfl (nL := 6) (Nat.le_of_ble_eq_true rfl) ?_
  intro X hX hC hr ho; subst hX
  show yG X d b (yQi X d b Y c F S mc ms Q) (F, k, n) 0 [some (.ref (gO' Y 0)), some (.int (zI a0)), some (.int (zI a1)), some (.int (zI a2)), some (.int (zI a3)), some (.int (zI a4))] []
  unfold wc_W_feed at hw
  refine h_aload_n hC dX11_feed_0 rfl ?_
  refine h_get hC fl_X11_14 (hZ.w.o 0 (by decide)) rfl dX11_feed_1 ?_
  refine yr_size (j := 0) (e := ((yz A0 0 : Nat) : Int)) hC hr ho hZ (by decide) rfl cl_X11_82 rfl (Nat.le_of_ble_eq_true rfl) (hFr_of (Nat.le_of_ble_eq_true rfl) (Nat.le_of_ble_eq_true rfl)) dX11_feed_4 ?_
  refine h_bipush (v := zI 20) hC dX11_feed_7 rfl ?_
  refine yr_iadd hC dX11_feed_9 ?_
  refine h_sipush (v := zI 6000) hC dX11_feed_10 rfl ?_
  obtain ⟨o1, h2⟩ := hw
  refine yr_icmp_le (tgt := 18) hC o1 (by decide) dX11_feed_13 (by decide) (fun c3 => ?_) (fun c3 => ?_)
  · have h4 := h2.1 c3
    refine h_aload_n hC dX11_feed_18 rfl ?_
    refine h_iload_n hC dX11_feed_19 rfl ?_
    refine yr_callVv (As := [.int (zI a0)]) hC hr ho hZ rfl (hZ.w.o 0 (by decide)) (cm_W_addBytes X.la d b Ra0 hZ.rs h4) cl_X11_86 rfl rfl (Nat.le_of_ble_eq_true rfl) (hFr_of (Nat.le_of_ble_eq_true rfl) (Nat.le_of_ble_eq_true rfl)) dX11_feed_20 (fun A6 u7 S8 o10 hZ11 h12 => ?_)
    refine h_aload_n hC dX11_feed_23 rfl ?_
    refine h_iload_n hC dX11_feed_24 rfl ?_
    refine yr_callVv (As := [.int (zI a1)]) hC hr o10 hZ11 rfl (hZ11.w.o 0 (by decide)) (cm_W_addBytes X.la d b Ra1 hZ11.rs h12) cl_X11_86 rfl rfl (Nat.le_of_ble_eq_true rfl) (hFr_of (Nat.le_of_ble_eq_true rfl) (Nat.le_of_ble_eq_true rfl)) dX11_feed_25 (fun A14 u15 S16 o18 hZ19 h20 => ?_)
    refine h_aload_n hC dX11_feed_28 rfl ?_
    refine h_iload_n hC dX11_feed_29 rfl ?_
    refine yr_callVv (As := [.int (zI a2)]) hC hr o18 hZ19 rfl (hZ19.w.o 0 (by decide)) (cm_W_addBytes X.la d b Ra2 hZ19.rs h20) cl_X11_86 rfl rfl (Nat.le_of_ble_eq_true rfl) (hFr_of (Nat.le_of_ble_eq_true rfl) (Nat.le_of_ble_eq_true rfl)) dX11_feed_30 (fun A22 u23 S24 o26 hZ27 h28 => ?_)
    refine h_aload_n hC dX11_feed_33 rfl ?_
    refine h_iload hC dX11_feed_34 rfl ?_
    refine yr_callVv (As := [.int (zI a3)]) hC hr o26 hZ27 rfl (hZ27.w.o 0 (by decide)) (cm_W_addBytes X.la d b Ra3 hZ27.rs h28) cl_X11_86 rfl rfl (Nat.le_of_ble_eq_true rfl) (hFr_of (Nat.le_of_ble_eq_true rfl) (Nat.le_of_ble_eq_true rfl)) dX11_feed_36 (fun A30 u31 S32 o34 hZ35 h36 => ?_)
    refine h_aload_n hC dX11_feed_39 rfl ?_
    refine h_iload hC dX11_feed_40 rfl ?_
    refine yr_callVv (As := [.int (zI a4)]) hC hr o34 hZ35 rfl (hZ35.w.o 0 (by decide)) (cm_W_addBytes X.la d b Ra4 hZ35.rs h36) cl_X11_86 rfl rfl (Nat.le_of_ble_eq_true rfl) (hFr_of (Nat.le_of_ble_eq_true rfl) (Nat.le_of_ble_eq_true rfl)) dX11_feed_42 (fun A38 u39 S40 o42 hZ43 h44 => ?_)
    refine h_iconst (v := zI 1) hC dX11_feed_45 rfl ?_
    exact yr_zret hC hr o42 hZ43 (Or.inr rfl) h44 dX11_feed_46
  · have h45 := h2.2 c3
    refine h_iconst (v := zI 0) hC dX11_feed_16 rfl ?_
    exact yr_zret hC hr ho hZ (Or.inl rfl) h45 dX11_feed_17
def wc_W_end (A0 : cS) (a0 : Int) (Q : Int → cS → Prop) : Prop :=
  ((a0 < 0 → Q 0 A0) ∧ (¬ a0 < 0 → ((a0 ≤ ((yz A0 0 : Nat) : Int) → Q 1 (ycut A0 0 a0)) ∧ (¬ a0 ≤ ((yz A0 0 : Nat) : Int) → Q 0 A0))))
set_option maxHeartbeats 4000000 in
set_option maxRecDepth 100000 in
theorem cm_W_end (l : Launch) (d : gD) (b : Nat) {Y : gYt} {c : Nat × Nat} {F : gM} {k n : Nat} {S : gSt} {A0 : cS} {a0 : Int} (Ra0 : zR a0) {Q : Int → cS → Prop} (hZ : yZ d b Y c F S (F, k, n) S A0) (hw : wc_W_end A0 a0 Q) : hMi l d b yX11_end cX11_end 2 .boolean 1 k n F [.ref (gO' Y 0), .int (zI a0)] (yPi d b Y c F S Q) := by
  intro mc ms
  refine hM_of2 rfl (nL := 2) (Nat.le_of_ble_eq_true rfl) ?_
  intro X hX hC hr ho; subst hX
  show yG X d b (yQi X d b Y c F S mc ms Q) (F, k, n) 0 [some (.ref (gO' Y 0)), some (.int (zI a0))] []
  unfold wc_W_end at hw
  refine h_iload_n hC dX11_end_0 rfl ?_
  refine yr_if_lt (tgt := 15) hC Ra0 dX11_end_1 (by decide) (fun c1 => ?_) (fun c1 => ?_)
  · have h2 := hw.1 c1
    refine h_iconst (v := zI 0) hC dX11_end_15 rfl ?_
    exact yr_zret hC hr ho hZ (Or.inl rfl) h2 dX11_end_16
  · have h3 := hw.2 c1
    refine h_iload_n hC dX11_end_4 rfl ?_
    refine h_aload_n hC dX11_end_5 rfl ?_
    refine h_get hC fl_X11_14 (hZ.w.o 0 (by decide)) rfl dX11_end_6 ?_
    refine yr_size (j := 0) (e := ((yz A0 0 : Nat) : Int)) hC hr ho hZ (by decide) rfl cl_X11_82 rfl (Nat.le_of_ble_eq_true rfl) (hFr_of (Nat.le_of_ble_eq_true rfl) (Nat.le_of_ble_eq_true rfl)) dX11_end_9 ?_
    refine yr_icmp_le (tgt := 17) hC Ra0 (hZ.rz (j := 0) (by decide)) dX11_end_12 (by decide) (fun c4 => ?_) (fun c4 => ?_)
    · have h5 := h3.1 c4
      refine h_aload_n hC dX11_end_17 rfl ?_
      refine h_get hC fl_X11_14 (hZ.w.o 0 (by decide)) rfl dX11_end_18 ?_
      refine h_iload_n hC dX11_end_21 rfl ?_
      refine yr_cut (j := 0) hC hr ho hZ (by decide) Ra0 cl_X11_92 rfl (Nat.le_of_ble_eq_true rfl) (hFr_of (Nat.le_of_ble_eq_true rfl) (Nat.le_of_ble_eq_true rfl)) dX11_end_22 (fun u6 S7 o8 hZ9 => ?_)
      refine h_iconst (v := zI 1) hC dX11_end_25 rfl ?_
      exact yr_zret hC hr o8 hZ9 (Or.inr rfl) h5 dX11_end_26
    · have h10 := h3.2 c4
      refine h_iconst (v := zI 0) hC dX11_end_15 rfl ?_
      exact yr_zret hC hr ho hZ (Or.inl rfl) h10 dX11_end_16
def wc_W_fault (A0 : cS)  (Q : Int → cS → Prop) : Prop :=
  wc_Program_faultKind A0  (fun r1 A2 => Q r1 A2)
set_option maxHeartbeats 4000000 in
set_option maxRecDepth 100000 in
theorem cm_W_fault (l : Launch) (d : gD) (b : Nat) {Y : gYt} {c : Nat × Nat} {F : gM} {k n : Nat} {S : gSt} {A0 : cS}   {Q : Int → cS → Prop} (hZ : yZ d b Y c F S (F, k, n) S A0) (hw : wc_W_fault A0  Q) : hMi l d b yX11_fault cX11_fault 1 .int 1 k n F [.ref (gO' Y 0)] (yPi d b Y c F S Q) := by
  intro mc ms
  refine hM_of2 rfl (nL := 1) (Nat.le_of_ble_eq_true rfl) ?_
  intro X hX hC hr ho; subst hX
  show yG X d b (yQi X d b Y c F S mc ms Q) (F, k, n) 0 [some (.ref (gO' Y 0))] []
  unfold wc_W_fault at hw
  refine h_aload_n hC dX11_fault_0 rfl ?_
  refine h_get hC fl_X11_21 (hZ.w.o 0 (by decide)) rfl dX11_fault_1 ?_
  refine yr_callVi (As := []) hC hr ho hZ rfl (hZ.w.o 1 (by decide)) (cm_Program_faultKind X.la d b  hZ.rs hw) cl_X11_114 rfl rfl (Nat.le_of_ble_eq_true rfl) (hFr_of (Nat.le_of_ble_eq_true rfl) (Nat.le_of_ble_eq_true rfl)) dX11_fault_4 (fun r1 A2 u3 S4 R5 o6 hZ7 h8 => ?_)
  exact yr_iret hC hr o6 hZ7 R5 h8 dX11_fault_7
theorem dX11_compile_0 : decode cX11_compile 0 = .ok (.aload_n 0, 1) := by decide +kernel
theorem dX11_compile_1 : decode cX11_compile 1 = .ok (.getfield 21, 3) := by decide +kernel
theorem dX11_compile_4 : decode cX11_compile 4 = .ok (.aload_n 0, 1) := by decide +kernel
theorem dX11_compile_5 : decode cX11_compile 5 = .ok (.getfield 75, 3) := by decide +kernel
theorem dX11_compile_8 : decode cX11_compile 8 = .ok (.invokevirtual 95, 3) := by decide +kernel
theorem dX11_compile_11 : decode cX11_compile 11 = .ok (.aload_n 0, 1) := by decide +kernel
theorem dX11_compile_12 : decode cX11_compile 12 = .ok (.getfield 37, 3) := by decide +kernel
theorem dX11_compile_15 : decode cX11_compile 15 = .ok (.invokevirtual 98, 3) := by decide +kernel
theorem dX11_compile_18 : decode cX11_compile 18 = .ok (.aload_n 0, 1) := by decide +kernel
theorem dX11_compile_19 : decode cX11_compile 19 = .ok (.getfield 46, 3) := by decide +kernel
theorem dX11_compile_22 : decode cX11_compile 22 = .ok (.invokevirtual 101, 3) := by decide +kernel
theorem dX11_compile_25 : decode cX11_compile 25 = .ok (.ifCond .eq 17, 3) := by decide +kernel
theorem dX11_compile_28 : decode cX11_compile 28 = .ok (.aload_n 0, 1) := by decide +kernel
theorem dX11_compile_29 : decode cX11_compile 29 = .ok (.getfield 55, 3) := by decide +kernel
theorem dX11_compile_32 : decode cX11_compile 32 = .ok (.aload_n 0, 1) := by decide +kernel
theorem dX11_compile_33 : decode cX11_compile 33 = .ok (.getfield 46, 3) := by decide +kernel
theorem dX11_compile_36 : decode cX11_compile 36 = .ok (.invokevirtual 105, 3) := by decide +kernel
theorem dX11_compile_39 : decode cX11_compile 39 = .ok (.invokevirtual 108, 3) := by decide +kernel
theorem dX11_compile_42 : decode cX11_compile 42 = .ok (.aload_n 0, 1) := by decide +kernel
theorem dX11_compile_43 : decode cX11_compile 43 = .ok (.getfield 21, 3) := by decide +kernel
theorem dX11_compile_46 : decode cX11_compile 46 = .ok (.invokevirtual 111, 3) := by decide +kernel
theorem dX11_compile_49 : decode cX11_compile 49 = .ok (.aload_n 0, 1) := by decide +kernel
theorem dX11_compile_50 : decode cX11_compile 50 = .ok (.getfield 14, 3) := by decide +kernel
theorem dX11_compile_53 : decode cX11_compile 53 = .ok (.iconst 0, 1) := by decide +kernel
theorem dX11_compile_54 : decode cX11_compile 54 = .ok (.invokevirtual 92, 3) := by decide +kernel
theorem dX11_compile_57 : decode cX11_compile 57 = .ok (.aload_n 0, 1) := by decide +kernel
theorem dX11_compile_58 : decode cX11_compile 58 = .ok (.getfield 21, 3) := by decide +kernel
theorem dX11_compile_61 : decode cX11_compile 61 = .ok (.invokevirtual 114, 3) := by decide +kernel
theorem dX11_compile_64 : decode cX11_compile 64 = .ok (.ifCond .eq 13, 3) := by decide +kernel
theorem dX11_compile_67 : decode cX11_compile 67 = .ok (.iconst (-1), 1) := by decide +kernel
theorem dX11_compile_68 : decode cX11_compile 68 = .ok (.aload_n 0, 1) := by decide +kernel
theorem dX11_compile_69 : decode cX11_compile 69 = .ok (.getfield 21, 3) := by decide +kernel
theorem dX11_compile_72 : decode cX11_compile 72 = .ok (.invokevirtual 117, 3) := by decide +kernel
theorem dX11_compile_75 : decode cX11_compile 75 = .ok (.isub, 1) := by decide +kernel
theorem dX11_compile_76 : decode cX11_compile 76 = .ok (.ireturn, 1) := by decide +kernel
theorem dX11_compile_77 : decode cX11_compile 77 = .ok (.aload_n 0, 1) := by decide +kernel
theorem dX11_compile_78 : decode cX11_compile 78 = .ok (.aload_n 0, 1) := by decide +kernel
theorem dX11_compile_79 : decode cX11_compile 79 = .ok (.getfield 75, 3) := by decide +kernel
theorem dX11_compile_82 : decode cX11_compile 82 = .ok (.putfield 79, 3) := by decide +kernel
theorem dX11_compile_85 : decode cX11_compile 85 = .ok (.aload_n 0, 1) := by decide +kernel
theorem dX11_compile_86 : decode cX11_compile 86 = .ok (.getfield 21, 3) := by decide +kernel
theorem dX11_compile_89 : decode cX11_compile 89 = .ok (.invokevirtual 120, 3) := by decide +kernel
theorem dX11_compile_92 : decode cX11_compile 92 = .ok (.ireturn, 1) := by decide +kernel
def wc_W_compile_42 (Q : Int → cS → Prop)  (A0 : cS)  : Prop :=
  wc_Program_judge A0  (fun A2 => wc_Program_faultKind (ycut A2 0 0)  (fun r13 A14 => ((r13 = 0 → wc_Program_words (ypv A14 1 (yv A14 0))  (fun r34 A35 => Q r34 A35)) ∧ (¬ r13 = 0 → wc_Program_faultPlace A14  (fun r43 A44 => ∀ z51 : Int, z51 = zw ((-1) - r43) → zR z51 → Q z51 A44)))))
def wc_W_compile (A0 : cS)  (Q : Int → cS → Prop) : Prop :=
  wc_Program_clear A0 (yv A0 0) (fun A2 => wc_Scanner_scan A2  (fun A10 => wc_Parser_reads A10 (fun r17 A18 => ((r17 = 0 → wc_W_compile_42 Q  A18 ) ∧ (¬ r17 = 0 → wc_Parser_root A18  (fun r28 A29 => wc_Coder_translate A29 r28 (fun A37 => wc_W_compile_42 Q  A37 )))))))
set_option maxHeartbeats 4000000 in
set_option maxRecDepth 100000 in
theorem cj_W_compile_42 {X : gX} {d : gD} {b : Nat} {Y : gYt} {c : Nat × Nat} {F0 : gM} {S0 : gSt} {mc ms : Nat} (hC : gC RX11 cX11_compile 1 (some .int) "compile" (gR 1272 mc ms) d b X) (hr : hRm X b) (hst : X.la.stackTraces = false) (hcx : yCx b c) {Q : Int → cS → Prop}   {u : hU} {S : gSt} {A0 : cS}   (ho : yOk X b u) (hZ : yZ d b Y (c.1 + 1, c.2 + 6) F0 S0 u S A0) (hw : wc_W_compile_42 Q  A0 ) : yG X d b (yQi X d b Y (c.1 + 1, c.2 + 6) F0 S0 mc ms Q) u 42 [some (.ref (gO' Y 0))] [] := by
  unfold wc_W_compile_42 at hw
  refine h_aload_n hC dX11_compile_42 rfl ?_
  refine h_get hC fl_X11_21 (hZ.w.o 0 (by decide)) rfl dX11_compile_43 ?_
  refine yr_callVv (As := []) hC hr ho hZ rfl (hZ.w.o 1 (by decide)) (cm_Program_judge X.la d b  hZ.rs hw) cl_X11_111 rfl rfl (Nat.le_of_ble_eq_true rfl) (hFr_of (Nat.le_of_ble_eq_true rfl) (Nat.le_of_ble_eq_true rfl)) dX11_compile_46 (fun A2 u3 S4 o6 hZ7 h8 => ?_)
  refine h_aload_n hC dX11_compile_49 rfl ?_
  refine h_get hC fl_X11_14 (hZ7.w.o 0 (by decide)) rfl dX11_compile_50 ?_
  refine h_iconst (v := zI 0) hC dX11_compile_53 rfl ?_
  refine yr_cut (j := 0) hC hr o6 hZ7 (by decide) (by decide) cl_X11_92 rfl (Nat.le_of_ble_eq_true rfl) (hFr_of (Nat.le_of_ble_eq_true rfl) (Nat.le_of_ble_eq_true rfl)) dX11_compile_54 (fun u9 S10 o11 hZ12 => ?_)
  refine h_aload_n hC dX11_compile_57 rfl ?_
  refine h_get hC fl_X11_21 (hZ12.w.o 0 (by decide)) rfl dX11_compile_58 ?_
  refine yr_callVi (As := []) hC hr o11 hZ12 rfl (hZ12.w.o 1 (by decide)) (cm_Program_faultKind X.la d b  hZ12.rs h8) cl_X11_114 rfl rfl (Nat.le_of_ble_eq_true rfl) (hFr_of (Nat.le_of_ble_eq_true rfl) (Nat.le_of_ble_eq_true rfl)) dX11_compile_61 (fun r13 A14 u15 S16 R17 o18 hZ19 h20 => ?_)
  refine yr_if_eq (tgt := 77) hC R17 dX11_compile_64 (by decide) (fun c21 => ?_) (fun c21 => ?_)
  · have h22 := h20.1 c21
    refine h_aload_n hC dX11_compile_77 rfl ?_
    refine h_aload_n hC dX11_compile_78 rfl ?_
    refine h_get hC fl_X11_75 (hZ19.w.o 0 (by decide)) rfl dX11_compile_79 ?_
    refine yr_sv (e := (yv A14 0)) hZ19 0 rfl ?_
    refine hi_putx (i := 0) (kx := 1) hC hZ19.hi (by decide) fl_X11_79 rfl rfl rfl (Nat.le_of_ble_eq_true rfl) rfl gsame_1 (fun q => absurd q (by decide)) dX11_compile_82 (fun F23 S24 I25 K26 s27 v28 p29 => ?_)
    have hZ30 := hZ19.put I25 K26 s27 v28 (hZ19.rv 0) rfl
    clear I25 K26 s27 v28 p29
    refine yr_nu o18 hZ30 (fun u31 o32 hZ33 => ?_)
    refine h_aload_n hC dX11_compile_85 rfl ?_
    refine h_get hC fl_X11_21 (hZ33.w.o 0 (by decide)) rfl dX11_compile_86 ?_
    refine yr_callVi (As := []) hC hr o32 hZ33 rfl (hZ33.w.o 1 (by decide)) (cm_Program_words X.la d b  hZ33.rs h22) cl_X11_120 rfl rfl (Nat.le_of_ble_eq_true rfl) (hFr_of (Nat.le_of_ble_eq_true rfl) (Nat.le_of_ble_eq_true rfl)) dX11_compile_89 (fun r34 A35 u36 S37 R38 o39 hZ40 h41 => ?_)
    exact yr_iret hC hr o39 hZ40 R38 h41 dX11_compile_92
  · have h42 := h20.2 c21
    refine h_iconst (v := zI (-1)) hC dX11_compile_67 rfl ?_
    refine h_aload_n hC dX11_compile_68 rfl ?_
    refine h_get hC fl_X11_21 (hZ19.w.o 0 (by decide)) rfl dX11_compile_69 ?_
    refine yr_callVi (As := []) hC hr o18 hZ19 rfl (hZ19.w.o 1 (by decide)) (cm_Program_faultPlace X.la d b  hZ19.rs h42) cl_X11_117 rfl rfl (Nat.le_of_ble_eq_true rfl) (hFr_of (Nat.le_of_ble_eq_true rfl) (Nat.le_of_ble_eq_true rfl)) dX11_compile_72 (fun r43 A44 u45 S46 R47 o48 hZ49 h50 => ?_)
    refine yr_isub hC dX11_compile_75 ?_
    refine yr_w (fun z51 e52 R53 => ?_)
    have h54 := h50 z51 e52 R53
    exact yr_iret hC hr o48 hZ49 R53 h54 dX11_compile_76
set_option maxHeartbeats 4000000 in
set_option maxRecDepth 100000 in
theorem cm_W_compile (l : Launch) (d : gD) (b : Nat) {Y : gYt} {c : Nat × Nat} {F : gM} {k n : Nat} {S : gSt} {A0 : cS} (hst : l.stackTraces = false) (hcx : yCx b c)   {Q : Int → cS → Prop} (hZ : yZ d b Y c F S (F, k, n) S A0) (hw : wc_W_compile A0  Q) : hMi l d b yX11_compile cX11_compile 1 .int 1272 k n F [.ref (gO' Y 0)] (yPi d b Y (c.1 + 1, c.2 + 6) F S Q) := by
  intro mc ms
  refine hM_of2 rfl (nL := 1) (Nat.le_of_ble_eq_true rfl) ?_
  intro X hX hC hr ho; subst hX
  show yG X d b (yQi X d b Y (c.1 + 1, c.2 + 6) F S mc ms Q) (F, k, n) 0 [some (.ref (gO' Y 0))] []
  unfold wc_W_compile at hw
  refine h_aload_n hC dX11_compile_0 rfl ?_
  refine h_get hC fl_X11_21 (hZ.w.o 0 (by decide)) rfl dX11_compile_1 ?_
  refine h_aload_n hC dX11_compile_4 rfl ?_
  refine h_get hC fl_X11_75 (hZ.w.o 0 (by decide)) rfl dX11_compile_5 ?_
  refine yr_sv (e := (yv A0 0)) hZ 0 rfl ?_
  refine yr_callVv (As := [.int (zI (yv A0 0))]) hC hr ho hZ rfl (hZ.w.o 1 (by decide)) (cm_Program_clear X.la d b (hZ.rv 0) hZ.rs hw) cl_X11_95 rfl rfl (Nat.le_of_ble_eq_true rfl) (hFr_of (Nat.le_of_ble_eq_true rfl) (Nat.le_of_ble_eq_true rfl)) dX11_compile_8 (fun A2 u3 S4 o6 hZ7 h8 => ?_)
  refine h_aload_n hC dX11_compile_11 rfl ?_
  refine h_get hC fl_X11_37 (hZ7.w.o 0 (by decide)) rfl dX11_compile_12 ?_
  refine yr_callVv (As := []) hC hr o6 hZ7 rfl (hZ7.w.o 3 (by decide)) (cm_Scanner_scan X.la d b  hZ7.rs h8) cl_X11_98 rfl rfl (Nat.le_of_ble_eq_true rfl) (hFr_of (Nat.le_of_ble_eq_true rfl) (Nat.le_of_ble_eq_true rfl)) dX11_compile_15 (fun A10 u11 S12 o14 hZ15 h16 => ?_)
  refine h_aload_n hC dX11_compile_18 rfl ?_
  refine h_get hC fl_X11_46 (hZ15.w.o 0 (by decide)) rfl dX11_compile_19 ?_
  refine yr_callVW (As := []) hC hr o14 hZ15 rfl (hZ15.w.o 4 (by decide)) (cm_Parser_reads X.la d b hst hcx hZ15.rs h16) cl_X11_101 rfl rfl (Nat.le_of_ble_eq_true rfl) (hFr_of (Nat.le_of_ble_eq_true rfl) (Nat.le_of_ble_eq_true rfl)) dX11_compile_22 (fun r17 A18 u19 S20 R21 o22 hZ23 h24 => ?_)
  refine yr_if_eq (tgt := 42) hC R21 dX11_compile_25 (by decide) (fun c25 => ?_) (fun c25 => ?_)
  · have h26 := h24.1 c25
    exact cj_W_compile_42 hC hr hst hcx   o22 hZ23 h26
  · have h27 := h24.2 c25
    refine h_aload_n hC dX11_compile_28 rfl ?_
    refine h_get hC fl_X11_55 (hZ23.w.o 0 (by decide)) rfl dX11_compile_29 ?_
    refine h_aload_n hC dX11_compile_32 rfl ?_
    refine h_get hC fl_X11_46 (hZ23.w.o 0 (by decide)) rfl dX11_compile_33 ?_
    refine yr_callVi (As := []) hC hr o22 hZ23 rfl (hZ23.w.o 4 (by decide)) (cm_Parser_root X.la d b  hZ23.rs h27) cl_X11_105 rfl rfl (Nat.le_of_ble_eq_true rfl) (hFr_of (Nat.le_of_ble_eq_true rfl) (Nat.le_of_ble_eq_true rfl)) dX11_compile_36 (fun r28 A29 u30 S31 R32 o33 hZ34 h35 => ?_)
    refine yr_callVv (As := [.int (zI r28)]) hC hr o33 hZ34 rfl (hZ34.w.o 5 (by decide)) (cm_Coder_translate X.la d b R32 hZ34.rs h35) cl_X11_108 rfl rfl (Nat.le_of_ble_eq_true rfl) (hFr_of (Nat.le_of_ble_eq_true rfl) (Nat.le_of_ble_eq_true rfl)) dX11_compile_39 (fun A37 u38 S39 o41 hZ42 h43 => ?_)
    exact cj_W_compile_42 hC hr hst hcx   o41 hZ42 h43
