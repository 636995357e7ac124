theorem kw_1951 : Cond.methodLink RX12 1 objectInit ∈ gWs := List.mem_filter.mpr ⟨gMt8 _ (List.mem_of_getElem? (i := 34) rfl), rfl⟩
theorem kw_506 : Cond.arrayClass .byte ∈ gWs := List.mem_filter.mpr ⟨gMt2 _ (List.mem_of_getElem? (i := 29) rfl), rfl⟩
theorem kw_2314 : Cond.arrayClass .boolean ∈ gWs := List.mem_filter.mpr ⟨gMt9 _ (List.mem_of_getElem? (i := 157) rfl), rfl⟩
theorem kw_2012 : Cond.fieldLink RX12 181 "WordTongueModel" "libName" "[I" ∈ gWs := List.mem_filter.mpr ⟨gMt8 _ (List.mem_of_getElem? (i := 95) rfl), rfl⟩
theorem fl_X12_181 : gFL RX12 181 12 56 (.array .int) true := ⟨RX12, TX12, 119, tyX12, rfl, by decide, inW_RX12, kw_2012, tyX12_ok, nmX12, rfl, by decide +kernel, fun _ => rfl⟩
theorem kw_1952 : Cond.constant RX12 218 60000 ∈ gWs := List.mem_filter.mpr ⟨gMt8 _ (List.mem_of_getElem? (i := 35) rfl), rfl⟩
theorem kw_1953 : Cond.constant RX12 279 620000 ∈ gWs := List.mem_filter.mpr ⟨gMt8 _ (List.mem_of_getElem? (i := 36) rfl), rfl⟩
theorem kw_1954 : Cond.constant RX12 292 300000 ∈ gWs := List.mem_filter.mpr ⟨gMt8 _ (List.mem_of_getElem? (i := 37) rfl), rfl⟩
/-! THE REFERENCE: an object of 119 fields, told by a function -/
def gRk (F0 F : gM) (t : Nat) (f : Nat → Value) (L : List (Nat × va_E)) : Prop := gRo F t f ∧ F0 t ≠ g0 ∧ gEx t F0 F ∧ (∀ p ∈ L, F p.1 = p.2 ∧ F0 p.1 = g0 ∧ p.2 ≠ g0) ∧ (L.map (fun p => p.1)).Nodup
theorem gRk.put {F0 F F' : gM} {t j : Nat} {f : Nat → Value} {v : Value} {L : List (Nat × va_E)} (h : gRk F0 F t f L) (hj : j < 119) (hF : F' = va_up F t (.inr (12, (f 0 :: gvt f).set j v))) : gRk F0 F' t (va_up f j v) L := by
  rw [gvl_set hj] at hF
  refine ⟨by rw [hF]; exact va_up_self _ _ _, h.2.1, h.2.2.1.tr (by rw [hF]; exact gEx.up (Or.inr rfl) g0_o), fun p hp => ?_, h.2.2.2.2⟩
  obtain ⟨e1, e2, e3⟩ := h.2.2.2.1 p hp
  exact ⟨by rw [hF, va_up_ne _ _ (fun e => h.2.1 (by rw [← e]; exact e2))]; exact e1, e2, e3⟩
theorem gRk.arr {F0 F F' : gM} {t q : Nat} {f : Nat → Value} {e : va_E} {L : List (Nat × va_E)} (h : gRk F0 F t f L) (hq : F q = g0) (he : e ≠ g0) (hF : F' = va_up F q e) : gRk F0 F' t f ((q, e) :: L) := by
  have k : ∀ x, F x ≠ g0 → F' x = F x := fun x hx => by rw [hF, va_up_ne _ _ (fun z => hx (by rw [z]; exact hq))]
  refine ⟨(k t (by rw [h.1]; exact g0_o)).trans h.1, h.2.1, h.2.2.1.tr (by rw [hF]; exact gEx.up (Or.inl hq) he), fun p hp => ?_, ?_⟩
  · rcases List.mem_cons.mp hp with rfl | hp
    · exact ⟨by rw [hF]; exact va_up_self _ _ _, h.2.2.1.g0 hq, he⟩
    · obtain ⟨e1, e2, e3⟩ := h.2.2.2.1 p hp
      exact ⟨(k _ (by rw [e1]; exact e3)).trans e1, e2, e3⟩
  · rw [List.map_cons, List.nodup_cons]
    refine ⟨fun hm => ?_, h.2.2.2.2⟩
    obtain ⟨p, hp, e4⟩ := List.mem_map.mp hm
    obtain ⟨e1, e2, e3⟩ := h.2.2.2.1 p hp
    exact e3 (by rw [← e1, show p.1 = q from e4]; exact hq)
section GR
variable {own : String} {cc : ByteArray} {nL : Nat} {rt : Option FieldType} {nm : String} {R : Room} {d : gD} {b : Nat} {X : gX} {Q : State → Prop} {F F0 : gM} {k n pc : Nat} {lv : List (Option Value)} {st : List Value}
theorem g_rputF (hC : gC own cc nL rt "<init>" R d b X) {t idx j : Nat} {ty : FieldType} {fin : Bool} {f : Nat → Value} {v : Value} {L : List (Nat × va_E)} (h : gRk F0 F t f L) (hl : gFL own idx 12 j ty fin) (hn : narrow ty v = v) (hfit : fits ty v = true) (hj : j < 119) (hdg : decode cc pc = .ok (.putfield idx, 3))
    (kk : ∀ F' : gM, gRk F0 F' t (va_up f j v) L → gG X d b Q F' k n (pc + 3) lv st) : gG X d b Q F k n pc lv (v :: .ref t :: st) := by
  cases fin with
  | false => exact g_put hC hl h.1 hn hfit (by rw [gvl_len]; exact hj) hdg (g_vF (fun F' e => kk F' (h.put hj e)))
  | true => exact g_putF hC hl h.1 hn hfit (by rw [gvl_len]; exact hj) hdg (g_vF (fun F' e => kk F' (h.put hj e)))
/-- a field of the reference is read -/
theorem g_rget (hC : gC own cc nL rt nm R d b X) {t idx j : Nat} {ty : FieldType} {fin : Bool} {f : Nat → Value} {v : Value} (h : gRo F t f) (hl : gFL own idx 12 j ty fin) (hv : f j = v) (hj : j < 119) (hdg : decode cc pc = .ok (.getfield idx, 3)) (kk : gG X d b Q F k n (pc + 3) lv (v :: st)) : gG X d b Q F k n pc lv (.ref t :: st) :=
  g_get hC hl h ((gvl_get hj).trans (by rw [hv])) hdg kk
/-- a field of the reference is put -/
theorem g_rput (hC : gC own cc nL rt nm R d b X) {t idx j : Nat} {ty : FieldType} {f : Nat → Value} {v : Value} (h : gRo F t f) (hl : gFL own idx 12 j ty false) (hn : narrow ty v = v) (hfit : fits ty v = true) (hj : j < 119) (hdg : decode cc pc = .ok (.putfield idx, 3))
    (kk : ∀ (F' : gM) (f' : Nat → Value), f' = va_up f j v → gRo F' t f' → (∀ x, x ≠ t → F' x = F x) → gG X d b Q F' k n (pc + 3) lv st) : gG X d b Q F k n pc lv (v :: .ref t :: st) :=
  g_put hC hl h hn hfit (by rw [gvl_len]; exact hj) hdg (g_vF (fun F' e => kk F' _ rfl (by rw [e, gvl_set hj]; exact va_up_self _ _ _) (fun x hx => by rw [e, va_up_ne _ _ hx])))
end GR
def gdv : Nat → Value := fun j => [.int 0, .null, .int 0, .null, .int 0, .int 0, .null, .null, .int 0, .null, .null, .null, .int 0, .int 0, .null, .int 0, .null, .null, .int 0, .int 0, .int 0, .int 0, .int 0, .int 0, .int 0, .null, .null, .null, .null, .null, .null, .null, .null, .null, .null, .null, .null, .int 0, .int 0, .null, .null, .null, .null, .int 0, .int 0, .int 0, .null, .null, .int 0, .int 0, .null, .null, .null, .null, .null, .int 0, .null, .null, .int 0, .int 0, .null, .null, .null, .int 0, .null, .null, .null, .int 0, .null, .int 0, .null, .null, .null, .int 0, .int 0, .int 0, .int 0, .int 0, .int 0, .int 0, .int 0, .int 0, .int 0, .int 0, .int 0, .null, .null, .int 0, .null, .null, .null, .int 0, .null, .null, .null, .int 0, .int 0, .int 0, .null, .int 0, .int 0, .int 0, .int 0, .int 0, .int 0, .int 0, .int 0, .null, .null, .null, .null, .null, .null, .null, .int 0, .null, .null, .int 0, .null].getD j .null
theorem gnm {x y : Nat} {l : List Nat} (h : x ≠ y) (h2 : x ∉ l) : x ∉ y :: l := fun z => (List.mem_cons.mp z).elim h h2
theorem dX12_init_0 : decode cX12_init 0 = .ok (.aload_n 0, 1) := by decide +kernel
theorem dX12_init_1 : decode cX12_init 1 = .ok (.invokespecial 1, 3) := by decide +kernel
theorem dX12_init_4 : decode cX12_init 4 = .ok (.aload_n 0, 1) := by decide +kernel
theorem dX12_init_5 : decode cX12_init 5 = .ok (.iconst 0, 1) := by decide +kernel
theorem dX12_init_6 : decode cX12_init 6 = .ok (.putfield 7, 3) := by decide +kernel
theorem dX12_init_9 : decode cX12_init 9 = .ok (.aload_n 0, 1) := by decide +kernel
theorem dX12_init_10 : decode cX12_init 10 = .ok (.sipush 6000, 3) := by decide +kernel
theorem dX12_init_13 : decode cX12_init 13 = .ok (.newarray .byte, 2) := by decide +kernel
theorem dX12_init_15 : decode cX12_init 15 = .ok (.putfield 13, 3) := by decide +kernel
theorem dX12_init_18 : decode cX12_init 18 = .ok (.aload_n 0, 1) := by decide +kernel
theorem dX12_init_19 : decode cX12_init 19 = .ok (.iconst 0, 1) := by decide +kernel
theorem dX12_init_20 : decode cX12_init 20 = .ok (.putfield 17, 3) := by decide +kernel
theorem dX12_init_23 : decode cX12_init 23 = .ok (.aload_n 0, 1) := by decide +kernel
theorem dX12_init_24 : decode cX12_init 24 = .ok (.sipush 6000, 3) := by decide +kernel
theorem dX12_init_27 : decode cX12_init 27 = .ok (.newarray .byte, 2) := by decide +kernel
theorem dX12_init_29 : decode cX12_init 29 = .ok (.putfield 20, 3) := by decide +kernel
theorem dX12_init_32 : decode cX12_init 32 = .ok (.aload_n 0, 1) := by decide +kernel
theorem dX12_init_33 : decode cX12_init 33 = .ok (.iconst 0, 1) := by decide +kernel
theorem dX12_init_34 : decode cX12_init 34 = .ok (.putfield 23, 3) := by decide +kernel
theorem dX12_init_37 : decode cX12_init 37 = .ok (.aload_n 0, 1) := by decide +kernel
theorem dX12_init_38 : decode cX12_init 38 = .ok (.iconst 0, 1) := by decide +kernel
theorem dX12_init_39 : decode cX12_init 39 = .ok (.putfield 26, 3) := by decide +kernel
theorem dX12_init_42 : decode cX12_init 42 = .ok (.aload_n 0, 1) := by decide +kernel
theorem dX12_init_43 : decode cX12_init 43 = .ok (.sipush 3100, 3) := by decide +kernel
theorem dX12_init_46 : decode cX12_init 46 = .ok (.newarray .int, 2) := by decide +kernel
theorem dX12_init_48 : decode cX12_init 48 = .ok (.putfield 29, 3) := by decide +kernel
theorem dX12_init_51 : decode cX12_init 51 = .ok (.aload_n 0, 1) := by decide +kernel
theorem dX12_init_52 : decode cX12_init 52 = .ok (.sipush 3100, 3) := by decide +kernel
theorem dX12_init_55 : decode cX12_init 55 = .ok (.newarray .int, 2) := by decide +kernel
theorem dX12_init_57 : decode cX12_init 57 = .ok (.putfield 33, 3) := by decide +kernel
theorem dX12_init_60 : decode cX12_init 60 = .ok (.aload_n 0, 1) := by decide +kernel
theorem dX12_init_61 : decode cX12_init 61 = .ok (.iconst 0, 1) := by decide +kernel
theorem dX12_init_62 : decode cX12_init 62 = .ok (.putfield 36, 3) := by decide +kernel
theorem dX12_init_65 : decode cX12_init 65 = .ok (.aload_n 0, 1) := by decide +kernel
theorem dX12_init_66 : decode cX12_init 66 = .ok (.sipush 12100, 3) := by decide +kernel
theorem dX12_init_69 : decode cX12_init 69 = .ok (.newarray .int, 2) := by decide +kernel
theorem dX12_init_71 : decode cX12_init 71 = .ok (.putfield 39, 3) := by decide +kernel
theorem dX12_init_74 : decode cX12_init 74 = .ok (.aload_n 0, 1) := by decide +kernel
theorem dX12_init_75 : decode cX12_init 75 = .ok (.sipush 12100, 3) := by decide +kernel
theorem dX12_init_78 : decode cX12_init 78 = .ok (.newarray .int, 2) := by decide +kernel
theorem dX12_init_80 : decode cX12_init 80 = .ok (.putfield 42, 3) := by decide +kernel
theorem dX12_init_83 : decode cX12_init 83 = .ok (.aload_n 0, 1) := by decide +kernel
theorem dX12_init_84 : decode cX12_init 84 = .ok (.sipush 12100, 3) := by decide +kernel
theorem dX12_init_87 : decode cX12_init 87 = .ok (.newarray .int, 2) := by decide +kernel
theorem dX12_init_89 : decode cX12_init 89 = .ok (.putfield 45, 3) := by decide +kernel
theorem dX12_init_92 : decode cX12_init 92 = .ok (.aload_n 0, 1) := by decide +kernel
theorem dX12_init_93 : decode cX12_init 93 = .ok (.iconst 0, 1) := by decide +kernel
theorem dX12_init_94 : decode cX12_init 94 = .ok (.putfield 48, 3) := by decide +kernel
theorem dX12_init_97 : decode cX12_init 97 = .ok (.aload_n 0, 1) := by decide +kernel
theorem dX12_init_98 : decode cX12_init 98 = .ok (.iconst 0, 1) := by decide +kernel
theorem dX12_init_99 : decode cX12_init 99 = .ok (.putfield 51, 3) := by decide +kernel
theorem dX12_init_102 : decode cX12_init 102 = .ok (.aload_n 0, 1) := by decide +kernel
theorem dX12_init_103 : decode cX12_init 103 = .ok (.sipush 6000, 3) := by decide +kernel
theorem dX12_init_106 : decode cX12_init 106 = .ok (.newarray .byte, 2) := by decide +kernel
theorem dX12_init_108 : decode cX12_init 108 = .ok (.putfield 54, 3) := by decide +kernel
theorem dX12_init_111 : decode cX12_init 111 = .ok (.aload_n 0, 1) := by decide +kernel
theorem dX12_init_112 : decode cX12_init 112 = .ok (.iconst 0, 1) := by decide +kernel
theorem dX12_init_113 : decode cX12_init 113 = .ok (.putfield 57, 3) := by decide +kernel
theorem dX12_init_116 : decode cX12_init 116 = .ok (.aload_n 0, 1) := by decide +kernel
theorem dX12_init_117 : decode cX12_init 117 = .ok (.sipush 3100, 3) := by decide +kernel
theorem dX12_init_120 : decode cX12_init 120 = .ok (.newarray .int, 2) := by decide +kernel
theorem dX12_init_122 : decode cX12_init 122 = .ok (.putfield 60, 3) := by decide +kernel
theorem dX12_init_125 : decode cX12_init 125 = .ok (.aload_n 0, 1) := by decide +kernel
theorem dX12_init_126 : decode cX12_init 126 = .ok (.sipush 3100, 3) := by decide +kernel
theorem dX12_init_129 : decode cX12_init 129 = .ok (.newarray .int, 2) := by decide +kernel
theorem dX12_init_131 : decode cX12_init 131 = .ok (.putfield 63, 3) := by decide +kernel
theorem dX12_init_134 : decode cX12_init 134 = .ok (.aload_n 0, 1) := by decide +kernel
theorem dX12_init_135 : decode cX12_init 135 = .ok (.iconst 0, 1) := by decide +kernel
theorem dX12_init_136 : decode cX12_init 136 = .ok (.putfield 66, 3) := by decide +kernel
theorem dX12_init_139 : decode cX12_init 139 = .ok (.aload_n 0, 1) := by decide +kernel
theorem dX12_init_140 : decode cX12_init 140 = .ok (.iconst 0, 1) := by decide +kernel
theorem dX12_init_141 : decode cX12_init 141 = .ok (.putfield 69, 3) := by decide +kernel
theorem dX12_init_144 : decode cX12_init 144 = .ok (.aload_n 0, 1) := by decide +kernel
theorem dX12_init_145 : decode cX12_init 145 = .ok (.iconst 0, 1) := by decide +kernel
theorem dX12_init_146 : decode cX12_init 146 = .ok (.putfield 72, 3) := by decide +kernel
theorem dX12_init_149 : decode cX12_init 149 = .ok (.aload_n 0, 1) := by decide +kernel
theorem dX12_init_150 : decode cX12_init 150 = .ok (.iconst 0, 1) := by decide +kernel
theorem dX12_init_151 : decode cX12_init 151 = .ok (.putfield 75, 3) := by decide +kernel
theorem dX12_init_154 : decode cX12_init 154 = .ok (.aload_n 0, 1) := by decide +kernel
theorem dX12_init_155 : decode cX12_init 155 = .ok (.iconst 0, 1) := by decide +kernel
theorem dX12_init_156 : decode cX12_init 156 = .ok (.putfield 78, 3) := by decide +kernel
theorem dX12_init_159 : decode cX12_init 159 = .ok (.aload_n 0, 1) := by decide +kernel
theorem dX12_init_160 : decode cX12_init 160 = .ok (.iconst 0, 1) := by decide +kernel
theorem dX12_init_161 : decode cX12_init 161 = .ok (.putfield 81, 3) := by decide +kernel
theorem dX12_init_164 : decode cX12_init 164 = .ok (.aload_n 0, 1) := by decide +kernel
theorem dX12_init_165 : decode cX12_init 165 = .ok (.iconst 0, 1) := by decide +kernel
theorem dX12_init_166 : decode cX12_init 166 = .ok (.putfield 84, 3) := by decide +kernel
theorem dX12_init_169 : decode cX12_init 169 = .ok (.aload_n 0, 1) := by decide +kernel
theorem dX12_init_170 : decode cX12_init 170 = .ok (.sipush 26000, 3) := by decide +kernel
theorem dX12_init_173 : decode cX12_init 173 = .ok (.newarray .byte, 2) := by decide +kernel
theorem dX12_init_175 : decode cX12_init 175 = .ok (.putfield 87, 3) := by decide +kernel
theorem dX12_init_178 : decode cX12_init 178 = .ok (.aload_n 0, 1) := by decide +kernel
theorem dX12_init_179 : decode cX12_init 179 = .ok (.sipush 26000, 3) := by decide +kernel
theorem dX12_init_182 : decode cX12_init 182 = .ok (.newarray .int, 2) := by decide +kernel
theorem dX12_init_184 : decode cX12_init 184 = .ok (.putfield 90, 3) := by decide +kernel
theorem dX12_init_187 : decode cX12_init 187 = .ok (.aload_n 0, 1) := by decide +kernel
theorem dX12_init_188 : decode cX12_init 188 = .ok (.sipush 26000, 3) := by decide +kernel
theorem dX12_init_191 : decode cX12_init 191 = .ok (.newarray .int, 2) := by decide +kernel
theorem dX12_init_193 : decode cX12_init 193 = .ok (.putfield 93, 3) := by decide +kernel
theorem dX12_init_196 : decode cX12_init 196 = .ok (.aload_n 0, 1) := by decide +kernel
theorem dX12_init_197 : decode cX12_init 197 = .ok (.sipush 26000, 3) := by decide +kernel
theorem dX12_init_200 : decode cX12_init 200 = .ok (.newarray .int, 2) := by decide +kernel
theorem dX12_init_202 : decode cX12_init 202 = .ok (.putfield 96, 3) := by decide +kernel
theorem dX12_init_205 : decode cX12_init 205 = .ok (.aload_n 0, 1) := by decide +kernel
theorem dX12_init_206 : decode cX12_init 206 = .ok (.sipush 26000, 3) := by decide +kernel
theorem dX12_init_209 : decode cX12_init 209 = .ok (.newarray .int, 2) := by decide +kernel
theorem dX12_init_211 : decode cX12_init 211 = .ok (.putfield 99, 3) := by decide +kernel
theorem dX12_init_214 : decode cX12_init 214 = .ok (.aload_n 0, 1) := by decide +kernel
theorem dX12_init_215 : decode cX12_init 215 = .ok (.sipush 26000, 3) := by decide +kernel
theorem dX12_init_218 : decode cX12_init 218 = .ok (.newarray .int, 2) := by decide +kernel
theorem dX12_init_220 : decode cX12_init 220 = .ok (.putfield 102, 3) := by decide +kernel
theorem dX12_init_223 : decode cX12_init 223 = .ok (.aload_n 0, 1) := by decide +kernel
theorem dX12_init_224 : decode cX12_init 224 = .ok (.sipush 26000, 3) := by decide +kernel
theorem dX12_init_227 : decode cX12_init 227 = .ok (.newarray .int, 2) := by decide +kernel
theorem dX12_init_229 : decode cX12_init 229 = .ok (.putfield 105, 3) := by decide +kernel
theorem dX12_init_232 : decode cX12_init 232 = .ok (.aload_n 0, 1) := by decide +kernel
theorem dX12_init_233 : decode cX12_init 233 = .ok (.sipush 26000, 3) := by decide +kernel
theorem dX12_init_236 : decode cX12_init 236 = .ok (.newarray .int, 2) := by decide +kernel
theorem dX12_init_238 : decode cX12_init 238 = .ok (.putfield 108, 3) := by decide +kernel
theorem dX12_init_241 : decode cX12_init 241 = .ok (.aload_n 0, 1) := by decide +kernel
theorem dX12_init_242 : decode cX12_init 242 = .ok (.sipush 26000, 3) := by decide +kernel
theorem dX12_init_245 : decode cX12_init 245 = .ok (.newarray .int, 2) := by decide +kernel
theorem dX12_init_247 : decode cX12_init 247 = .ok (.putfield 111, 3) := by decide +kernel
theorem dX12_init_250 : decode cX12_init 250 = .ok (.aload_n 0, 1) := by decide +kernel
theorem dX12_init_251 : decode cX12_init 251 = .ok (.sipush 26000, 3) := by decide +kernel
theorem dX12_init_254 : decode cX12_init 254 = .ok (.newarray .int, 2) := by decide +kernel
theorem dX12_init_256 : decode cX12_init 256 = .ok (.putfield 114, 3) := by decide +kernel
theorem dX12_init_259 : decode cX12_init 259 = .ok (.aload_n 0, 1) := by decide +kernel
theorem dX12_init_260 : decode cX12_init 260 = .ok (.sipush 26000, 3) := by decide +kernel
theorem dX12_init_263 : decode cX12_init 263 = .ok (.newarray .boolean, 2) := by decide +kernel
theorem dX12_init_265 : decode cX12_init 265 = .ok (.putfield 117, 3) := by decide +kernel
theorem dX12_init_268 : decode cX12_init 268 = .ok (.aload_n 0, 1) := by decide +kernel
theorem dX12_init_269 : decode cX12_init 269 = .ok (.sipush 26000, 3) := by decide +kernel
theorem dX12_init_272 : decode cX12_init 272 = .ok (.newarray .int, 2) := by decide +kernel
theorem dX12_init_274 : decode cX12_init 274 = .ok (.putfield 121, 3) := by decide +kernel
theorem dX12_init_277 : decode cX12_init 277 = .ok (.aload_n 0, 1) := by decide +kernel
theorem dX12_init_278 : decode cX12_init 278 = .ok (.iconst 0, 1) := by decide +kernel
theorem dX12_init_279 : decode cX12_init 279 = .ok (.putfield 124, 3) := by decide +kernel
theorem dX12_init_282 : decode cX12_init 282 = .ok (.aload_n 0, 1) := by decide +kernel
theorem dX12_init_283 : decode cX12_init 283 = .ok (.iconst 0, 1) := by decide +kernel
theorem dX12_init_284 : decode cX12_init 284 = .ok (.putfield 127, 3) := by decide +kernel
theorem dX12_init_287 : decode cX12_init 287 = .ok (.aload_n 0, 1) := by decide +kernel
theorem dX12_init_288 : decode cX12_init 288 = .ok (.sipush 9000, 3) := by decide +kernel
theorem dX12_init_291 : decode cX12_init 291 = .ok (.newarray .int, 2) := by decide +kernel
theorem dX12_init_293 : decode cX12_init 293 = .ok (.putfield 130, 3) := by decide +kernel
theorem dX12_init_296 : decode cX12_init 296 = .ok (.aload_n 0, 1) := by decide +kernel
theorem dX12_init_297 : decode cX12_init 297 = .ok (.sipush 9000, 3) := by decide +kernel
theorem dX12_init_300 : decode cX12_init 300 = .ok (.newarray .int, 2) := by decide +kernel
theorem dX12_init_302 : decode cX12_init 302 = .ok (.putfield 133, 3) := by decide +kernel
theorem dX12_init_305 : decode cX12_init 305 = .ok (.aload_n 0, 1) := by decide +kernel
theorem dX12_init_306 : decode cX12_init 306 = .ok (.sipush 9000, 3) := by decide +kernel
theorem dX12_init_309 : decode cX12_init 309 = .ok (.newarray .int, 2) := by decide +kernel
theorem dX12_init_311 : decode cX12_init 311 = .ok (.putfield 136, 3) := by decide +kernel
theorem dX12_init_314 : decode cX12_init 314 = .ok (.aload_n 0, 1) := by decide +kernel
theorem dX12_init_315 : decode cX12_init 315 = .ok (.sipush 9000, 3) := by decide +kernel
theorem dX12_init_318 : decode cX12_init 318 = .ok (.newarray .int, 2) := by decide +kernel
theorem dX12_init_320 : decode cX12_init 320 = .ok (.putfield 139, 3) := by decide +kernel
theorem dX12_init_323 : decode cX12_init 323 = .ok (.aload_n 0, 1) := by decide +kernel
theorem dX12_init_324 : decode cX12_init 324 = .ok (.iconst 0, 1) := by decide +kernel
theorem dX12_init_325 : decode cX12_init 325 = .ok (.putfield 142, 3) := by decide +kernel
theorem dX12_init_328 : decode cX12_init 328 = .ok (.aload_n 0, 1) := by decide +kernel
theorem dX12_init_329 : decode cX12_init 329 = .ok (.iconst 0, 1) := by decide +kernel
theorem dX12_init_330 : decode cX12_init 330 = .ok (.putfield 145, 3) := by decide +kernel
theorem dX12_init_333 : decode cX12_init 333 = .ok (.aload_n 0, 1) := by decide +kernel
theorem dX12_init_334 : decode cX12_init 334 = .ok (.iconst 0, 1) := by decide +kernel
theorem dX12_init_335 : decode cX12_init 335 = .ok (.putfield 148, 3) := by decide +kernel
theorem dX12_init_338 : decode cX12_init 338 = .ok (.aload_n 0, 1) := by decide +kernel
theorem dX12_init_339 : decode cX12_init 339 = .ok (.bipush 70, 2) := by decide +kernel
theorem dX12_init_341 : decode cX12_init 341 = .ok (.newarray .int, 2) := by decide +kernel
theorem dX12_init_343 : decode cX12_init 343 = .ok (.putfield 151, 3) := by decide +kernel
theorem dX12_init_346 : decode cX12_init 346 = .ok (.aload_n 0, 1) := by decide +kernel
theorem dX12_init_347 : decode cX12_init 347 = .ok (.bipush 70, 2) := by decide +kernel
theorem dX12_init_349 : decode cX12_init 349 = .ok (.newarray .int, 2) := by decide +kernel
theorem dX12_init_351 : decode cX12_init 351 = .ok (.putfield 154, 3) := by decide +kernel
theorem dX12_init_354 : decode cX12_init 354 = .ok (.aload_n 0, 1) := by decide +kernel
theorem dX12_init_355 : decode cX12_init 355 = .ok (.iconst 0, 1) := by decide +kernel
theorem dX12_init_356 : decode cX12_init 356 = .ok (.putfield 157, 3) := by decide +kernel
theorem dX12_init_359 : decode cX12_init 359 = .ok (.aload_n 0, 1) := by decide +kernel
theorem dX12_init_360 : decode cX12_init 360 = .ok (.iconst 0, 1) := by decide +kernel
theorem dX12_init_361 : decode cX12_init 361 = .ok (.putfield 160, 3) := by decide +kernel
theorem dX12_init_364 : decode cX12_init 364 = .ok (.aload_n 0, 1) := by decide +kernel
theorem dX12_init_365 : decode cX12_init 365 = .ok (.sipush 9000, 3) := by decide +kernel
theorem dX12_init_368 : decode cX12_init 368 = .ok (.newarray .int, 2) := by decide +kernel
theorem dX12_init_370 : decode cX12_init 370 = .ok (.putfield 163, 3) := by decide +kernel
theorem dX12_init_373 : decode cX12_init 373 = .ok (.aload_n 0, 1) := by decide +kernel
theorem dX12_init_374 : decode cX12_init 374 = .ok (.sipush 9000, 3) := by decide +kernel
theorem dX12_init_377 : decode cX12_init 377 = .ok (.newarray .int, 2) := by decide +kernel
theorem dX12_init_379 : decode cX12_init 379 = .ok (.putfield 166, 3) := by decide +kernel
theorem dX12_init_382 : decode cX12_init 382 = .ok (.aload_n 0, 1) := by decide +kernel
theorem dX12_init_383 : decode cX12_init 383 = .ok (.sipush 9000, 3) := by decide +kernel
theorem dX12_init_386 : decode cX12_init 386 = .ok (.newarray .int, 2) := by decide +kernel
theorem dX12_init_388 : decode cX12_init 388 = .ok (.putfield 169, 3) := by decide +kernel
theorem dX12_init_391 : decode cX12_init 391 = .ok (.aload_n 0, 1) := by decide +kernel
theorem dX12_init_392 : decode cX12_init 392 = .ok (.sipush 9000, 3) := by decide +kernel
theorem dX12_init_395 : decode cX12_init 395 = .ok (.newarray .int, 2) := by decide +kernel
theorem dX12_init_397 : decode cX12_init 397 = .ok (.putfield 172, 3) := by decide +kernel
theorem dX12_init_400 : decode cX12_init 400 = .ok (.aload_n 0, 1) := by decide +kernel
theorem dX12_init_401 : decode cX12_init 401 = .ok (.sipush 9000, 3) := by decide +kernel
theorem dX12_init_404 : decode cX12_init 404 = .ok (.newarray .int, 2) := by decide +kernel
theorem dX12_init_406 : decode cX12_init 406 = .ok (.putfield 175, 3) := by decide +kernel
theorem dX12_init_409 : decode cX12_init 409 = .ok (.aload_n 0, 1) := by decide +kernel
theorem dX12_init_410 : decode cX12_init 410 = .ok (.iconst 0, 1) := by decide +kernel
theorem dX12_init_411 : decode cX12_init 411 = .ok (.putfield 178, 3) := by decide +kernel
theorem dX12_init_414 : decode cX12_init 414 = .ok (.aload_n 0, 1) := by decide +kernel
theorem dX12_init_415 : decode cX12_init 415 = .ok (.bipush 18, 2) := by decide +kernel
theorem dX12_init_417 : decode cX12_init 417 = .ok (.newarray .int, 2) := by decide +kernel
theorem dX12_init_419 : decode cX12_init 419 = .ok (.putfield 181, 3) := by decide +kernel
theorem dX12_init_422 : decode cX12_init 422 = .ok (.aload_n 0, 1) := by decide +kernel
theorem dX12_init_423 : decode cX12_init 423 = .ok (.sipush 9000, 3) := by decide +kernel
theorem dX12_init_426 : decode cX12_init 426 = .ok (.newarray .int, 2) := by decide +kernel
theorem dX12_init_428 : decode cX12_init 428 = .ok (.putfield 184, 3) := by decide +kernel
theorem dX12_init_431 : decode cX12_init 431 = .ok (.aload_n 0, 1) := by decide +kernel
theorem dX12_init_432 : decode cX12_init 432 = .ok (.iconst 0, 1) := by decide +kernel
theorem dX12_init_433 : decode cX12_init 433 = .ok (.putfield 187, 3) := by decide +kernel
theorem dX12_init_436 : decode cX12_init 436 = .ok (.aload_n 0, 1) := by decide +kernel
theorem dX12_init_437 : decode cX12_init 437 = .ok (.iconst 0, 1) := by decide +kernel
theorem dX12_init_438 : decode cX12_init 438 = .ok (.putfield 191, 3) := by decide +kernel
theorem dX12_init_441 : decode cX12_init 441 = .ok (.aload_n 0, 1) := by decide +kernel
theorem dX12_init_442 : decode cX12_init 442 = .ok (.sipush 26000, 3) := by decide +kernel
theorem dX12_init_445 : decode cX12_init 445 = .ok (.newarray .int, 2) := by decide +kernel
theorem dX12_init_447 : decode cX12_init 447 = .ok (.putfield 194, 3) := by decide +kernel
theorem dX12_init_450 : decode cX12_init 450 = .ok (.aload_n 0, 1) := by decide +kernel
theorem dX12_init_451 : decode cX12_init 451 = .ok (.sipush 26000, 3) := by decide +kernel
theorem dX12_init_454 : decode cX12_init 454 = .ok (.newarray .int, 2) := by decide +kernel
theorem dX12_init_456 : decode cX12_init 456 = .ok (.putfield 197, 3) := by decide +kernel
theorem dX12_init_459 : decode cX12_init 459 = .ok (.aload_n 0, 1) := by decide +kernel
theorem dX12_init_460 : decode cX12_init 460 = .ok (.sipush 26000, 3) := by decide +kernel
theorem dX12_init_463 : decode cX12_init 463 = .ok (.newarray .int, 2) := by decide +kernel
theorem dX12_init_465 : decode cX12_init 465 = .ok (.putfield 200, 3) := by decide +kernel
theorem dX12_init_468 : decode cX12_init 468 = .ok (.aload_n 0, 1) := by decide +kernel
theorem dX12_init_469 : decode cX12_init 469 = .ok (.iconst 0, 1) := by decide +kernel
theorem dX12_init_470 : decode cX12_init 470 = .ok (.putfield 203, 3) := by decide +kernel
theorem dX12_init_473 : decode cX12_init 473 = .ok (.aload_n 0, 1) := by decide +kernel
theorem dX12_init_474 : decode cX12_init 474 = .ok (.sipush 26000, 3) := by decide +kernel
theorem dX12_init_477 : decode cX12_init 477 = .ok (.newarray .int, 2) := by decide +kernel
theorem dX12_init_479 : decode cX12_init 479 = .ok (.putfield 206, 3) := by decide +kernel
theorem dX12_init_482 : decode cX12_init 482 = .ok (.aload_n 0, 1) := by decide +kernel
theorem dX12_init_483 : decode cX12_init 483 = .ok (.sipush 26000, 3) := by decide +kernel
theorem dX12_init_486 : decode cX12_init 486 = .ok (.newarray .int, 2) := by decide +kernel
theorem dX12_init_488 : decode cX12_init 488 = .ok (.putfield 209, 3) := by decide +kernel
theorem dX12_init_491 : decode cX12_init 491 = .ok (.aload_n 0, 1) := by decide +kernel
theorem dX12_init_492 : decode cX12_init 492 = .ok (.sipush 26000, 3) := by decide +kernel
theorem dX12_init_495 : decode cX12_init 495 = .ok (.newarray .int, 2) := by decide +kernel
theorem dX12_init_497 : decode cX12_init 497 = .ok (.putfield 212, 3) := by decide +kernel
theorem dX12_init_500 : decode cX12_init 500 = .ok (.aload_n 0, 1) := by decide +kernel
theorem dX12_init_501 : decode cX12_init 501 = .ok (.iconst 0, 1) := by decide +kernel
theorem dX12_init_502 : decode cX12_init 502 = .ok (.putfield 215, 3) := by decide +kernel
theorem dX12_init_505 : decode cX12_init 505 = .ok (.aload_n 0, 1) := by decide +kernel
theorem dX12_init_506 : decode cX12_init 506 = .ok (.ldc 218, 2) := by decide +kernel
theorem dX12_init_508 : decode cX12_init 508 = .ok (.newarray .int, 2) := by decide +kernel
theorem dX12_init_510 : decode cX12_init 510 = .ok (.putfield 219, 3) := by decide +kernel
theorem dX12_init_513 : decode cX12_init 513 = .ok (.aload_n 0, 1) := by decide +kernel
theorem dX12_init_514 : decode cX12_init 514 = .ok (.iconst 0, 1) := by decide +kernel
theorem dX12_init_515 : decode cX12_init 515 = .ok (.putfield 222, 3) := by decide +kernel
theorem dX12_init_518 : decode cX12_init 518 = .ok (.aload_n 0, 1) := by decide +kernel
theorem dX12_init_519 : decode cX12_init 519 = .ok (.sipush 3100, 3) := by decide +kernel
theorem dX12_init_522 : decode cX12_init 522 = .ok (.newarray .int, 2) := by decide +kernel
theorem dX12_init_524 : decode cX12_init 524 = .ok (.putfield 225, 3) := by decide +kernel
theorem dX12_init_527 : decode cX12_init 527 = .ok (.aload_n 0, 1) := by decide +kernel
theorem dX12_init_528 : decode cX12_init 528 = .ok (.sipush 3100, 3) := by decide +kernel
theorem dX12_init_531 : decode cX12_init 531 = .ok (.newarray .int, 2) := by decide +kernel
theorem dX12_init_533 : decode cX12_init 533 = .ok (.putfield 228, 3) := by decide +kernel
theorem dX12_init_536 : decode cX12_init 536 = .ok (.aload_n 0, 1) := by decide +kernel
theorem dX12_init_537 : decode cX12_init 537 = .ok (.sipush 3100, 3) := by decide +kernel
theorem dX12_init_540 : decode cX12_init 540 = .ok (.newarray .int, 2) := by decide +kernel
theorem dX12_init_542 : decode cX12_init 542 = .ok (.putfield 231, 3) := by decide +kernel
theorem dX12_init_545 : decode cX12_init 545 = .ok (.aload_n 0, 1) := by decide +kernel
theorem dX12_init_546 : decode cX12_init 546 = .ok (.iconst 0, 1) := by decide +kernel
theorem dX12_init_547 : decode cX12_init 547 = .ok (.putfield 234, 3) := by decide +kernel
theorem dX12_init_550 : decode cX12_init 550 = .ok (.aload_n 0, 1) := by decide +kernel
theorem dX12_init_551 : decode cX12_init 551 = .ok (.iconst 0, 1) := by decide +kernel
theorem dX12_init_552 : decode cX12_init 552 = .ok (.putfield 237, 3) := by decide +kernel
theorem dX12_init_555 : decode cX12_init 555 = .ok (.aload_n 0, 1) := by decide +kernel
theorem dX12_init_556 : decode cX12_init 556 = .ok (.iconst 0, 1) := by decide +kernel
theorem dX12_init_557 : decode cX12_init 557 = .ok (.putfield 240, 3) := by decide +kernel
theorem dX12_init_560 : decode cX12_init 560 = .ok (.aload_n 0, 1) := by decide +kernel
theorem dX12_init_561 : decode cX12_init 561 = .ok (.iconst 0, 1) := by decide +kernel
theorem dX12_init_562 : decode cX12_init 562 = .ok (.putfield 243, 3) := by decide +kernel
theorem dX12_init_565 : decode cX12_init 565 = .ok (.aload_n 0, 1) := by decide +kernel
theorem dX12_init_566 : decode cX12_init 566 = .ok (.iconst 0, 1) := by decide +kernel
theorem dX12_init_567 : decode cX12_init 567 = .ok (.putfield 246, 3) := by decide +kernel
theorem dX12_init_570 : decode cX12_init 570 = .ok (.aload_n 0, 1) := by decide +kernel
theorem dX12_init_571 : decode cX12_init 571 = .ok (.iconst 0, 1) := by decide +kernel
theorem dX12_init_572 : decode cX12_init 572 = .ok (.putfield 249, 3) := by decide +kernel
theorem dX12_init_575 : decode cX12_init 575 = .ok (.aload_n 0, 1) := by decide +kernel
theorem dX12_init_576 : decode cX12_init 576 = .ok (.iconst 0, 1) := by decide +kernel
theorem dX12_init_577 : decode cX12_init 577 = .ok (.putfield 252, 3) := by decide +kernel
theorem dX12_init_580 : decode cX12_init 580 = .ok (.aload_n 0, 1) := by decide +kernel
theorem dX12_init_581 : decode cX12_init 581 = .ok (.iconst 0, 1) := by decide +kernel
theorem dX12_init_582 : decode cX12_init 582 = .ok (.putfield 255, 3) := by decide +kernel
theorem dX12_init_585 : decode cX12_init 585 = .ok (.aload_n 0, 1) := by decide +kernel
theorem dX12_init_586 : decode cX12_init 586 = .ok (.iconst 0, 1) := by decide +kernel
theorem dX12_init_587 : decode cX12_init 587 = .ok (.putfield 258, 3) := by decide +kernel
theorem dX12_init_590 : decode cX12_init 590 = .ok (.aload_n 0, 1) := by decide +kernel
theorem dX12_init_591 : decode cX12_init 591 = .ok (.iconst 0, 1) := by decide +kernel
theorem dX12_init_592 : decode cX12_init 592 = .ok (.putfield 261, 3) := by decide +kernel
theorem dX12_init_595 : decode cX12_init 595 = .ok (.aload_n 0, 1) := by decide +kernel
theorem dX12_init_596 : decode cX12_init 596 = .ok (.iconst 0, 1) := by decide +kernel
theorem dX12_init_597 : decode cX12_init 597 = .ok (.putfield 264, 3) := by decide +kernel
theorem dX12_init_600 : decode cX12_init 600 = .ok (.aload_n 0, 1) := by decide +kernel
theorem dX12_init_601 : decode cX12_init 601 = .ok (.iconst 0, 1) := by decide +kernel
theorem dX12_init_602 : decode cX12_init 602 = .ok (.putfield 267, 3) := by decide +kernel
theorem dX12_init_605 : decode cX12_init 605 = .ok (.aload_n 0, 1) := by decide +kernel
theorem dX12_init_606 : decode cX12_init 606 = .ok (.sipush 9000, 3) := by decide +kernel
theorem dX12_init_609 : decode cX12_init 609 = .ok (.newarray .int, 2) := by decide +kernel
theorem dX12_init_611 : decode cX12_init 611 = .ok (.putfield 270, 3) := by decide +kernel
theorem dX12_init_614 : decode cX12_init 614 = .ok (.aload_n 0, 1) := by decide +kernel
theorem dX12_init_615 : decode cX12_init 615 = .ok (.sipush 9000, 3) := by decide +kernel
theorem dX12_init_618 : decode cX12_init 618 = .ok (.newarray .int, 2) := by decide +kernel
theorem dX12_init_620 : decode cX12_init 620 = .ok (.putfield 273, 3) := by decide +kernel
theorem dX12_init_623 : decode cX12_init 623 = .ok (.aload_n 0, 1) := by decide +kernel
theorem dX12_init_624 : decode cX12_init 624 = .ok (.iconst 0, 1) := by decide +kernel
theorem dX12_init_625 : decode cX12_init 625 = .ok (.putfield 276, 3) := by decide +kernel
theorem dX12_init_628 : decode cX12_init 628 = .ok (.aload_n 0, 1) := by decide +kernel
theorem dX12_init_629 : decode cX12_init 629 = .ok (.ldc_w 279, 3) := by decide +kernel
theorem dX12_init_632 : decode cX12_init 632 = .ok (.newarray .int, 2) := by decide +kernel
theorem dX12_init_634 : decode cX12_init 634 = .ok (.putfield 280, 3) := by decide +kernel
theorem dX12_init_637 : decode cX12_init 637 = .ok (.aload_n 0, 1) := by decide +kernel
theorem dX12_init_638 : decode cX12_init 638 = .ok (.ldc_w 279, 3) := by decide +kernel
theorem dX12_init_641 : decode cX12_init 641 = .ok (.newarray .int, 2) := by decide +kernel
theorem dX12_init_643 : decode cX12_init 643 = .ok (.putfield 283, 3) := by decide +kernel
theorem dX12_init_646 : decode cX12_init 646 = .ok (.aload_n 0, 1) := by decide +kernel
theorem dX12_init_647 : decode cX12_init 647 = .ok (.ldc_w 279, 3) := by decide +kernel
theorem dX12_init_650 : decode cX12_init 650 = .ok (.newarray .int, 2) := by decide +kernel
theorem dX12_init_652 : decode cX12_init 652 = .ok (.putfield 286, 3) := by decide +kernel
theorem dX12_init_655 : decode cX12_init 655 = .ok (.aload_n 0, 1) := by decide +kernel
theorem dX12_init_656 : decode cX12_init 656 = .ok (.iconst 0, 1) := by decide +kernel
theorem dX12_init_657 : decode cX12_init 657 = .ok (.putfield 289, 3) := by decide +kernel
theorem dX12_init_660 : decode cX12_init 660 = .ok (.aload_n 0, 1) := by decide +kernel
theorem dX12_init_661 : decode cX12_init 661 = .ok (.ldc_w 292, 3) := by decide +kernel
theorem dX12_init_664 : decode cX12_init 664 = .ok (.newarray .int, 2) := by decide +kernel
theorem dX12_init_666 : decode cX12_init 666 = .ok (.putfield 293, 3) := by decide +kernel
theorem dX12_init_669 : decode cX12_init 669 = .ok (.aload_n 0, 1) := by decide +kernel
theorem dX12_init_670 : decode cX12_init 670 = .ok (.sipush 600, 3) := by decide +kernel
theorem dX12_init_673 : decode cX12_init 673 = .ok (.newarray .int, 2) := by decide +kernel
theorem dX12_init_675 : decode cX12_init 675 = .ok (.putfield 296, 3) := by decide +kernel
theorem dX12_init_678 : decode cX12_init 678 = .ok (.aload_n 0, 1) := by decide +kernel
theorem dX12_init_679 : decode cX12_init 679 = .ok (.sipush 600, 3) := by decide +kernel
theorem dX12_init_682 : decode cX12_init 682 = .ok (.newarray .int, 2) := by decide +kernel
theorem dX12_init_684 : decode cX12_init 684 = .ok (.putfield 299, 3) := by decide +kernel
theorem dX12_init_687 : decode cX12_init 687 = .ok (.aload_n 0, 1) := by decide +kernel
theorem dX12_init_688 : decode cX12_init 688 = .ok (.iconst 0, 1) := by decide +kernel
theorem dX12_init_689 : decode cX12_init 689 = .ok (.putfield 302, 3) := by decide +kernel
theorem dX12_init_692 : decode cX12_init 692 = .ok (.aload_n 0, 1) := by decide +kernel
theorem dX12_init_693 : decode cX12_init 693 = .ok (.iconst 0, 1) := by decide +kernel
theorem dX12_init_694 : decode cX12_init 694 = .ok (.putfield 305, 3) := by decide +kernel
theorem dX12_init_697 : decode cX12_init 697 = .ok (.aload_n 0, 1) := by decide +kernel
theorem dX12_init_698 : decode cX12_init 698 = .ok (.iconst 0, 1) := by decide +kernel
theorem dX12_init_699 : decode cX12_init 699 = .ok (.putfield 308, 3) := by decide +kernel
theorem dX12_init_702 : decode cX12_init 702 = .ok (.aload_n 0, 1) := by decide +kernel
theorem dX12_init_703 : decode cX12_init 703 = .ok (.ldc_w 311, 3) := by decide +kernel
theorem dX12_init_706 : decode cX12_init 706 = .ok (.newarray .int, 2) := by decide +kernel
theorem dX12_init_708 : decode cX12_init 708 = .ok (.putfield 312, 3) := by decide +kernel
theorem dX12_init_711 : decode cX12_init 711 = .ok (.aload_n 0, 1) := by decide +kernel
theorem dX12_init_712 : decode cX12_init 712 = .ok (.sipush 4096, 3) := by decide +kernel
theorem dX12_init_715 : decode cX12_init 715 = .ok (.putfield 315, 3) := by decide +kernel
theorem dX12_init_718 : decode cX12_init 718 = .ok (.aload_n 0, 1) := by decide +kernel
theorem dX12_init_719 : decode cX12_init 719 = .ok (.sipush 4096, 3) := by decide +kernel
theorem dX12_init_722 : decode cX12_init 722 = .ok (.putfield 318, 3) := by decide +kernel
theorem dX12_init_725 : decode cX12_init 725 = .ok (.aload_n 0, 1) := by decide +kernel
theorem dX12_init_726 : decode cX12_init 726 = .ok (.iconst 0, 1) := by decide +kernel
theorem dX12_init_727 : decode cX12_init 727 = .ok (.putfield 321, 3) := by decide +kernel
theorem dX12_init_730 : decode cX12_init 730 = .ok (.aload_n 0, 1) := by decide +kernel
theorem dX12_init_731 : decode cX12_init 731 = .ok (.iconst 0, 1) := by decide +kernel
theorem dX12_init_732 : decode cX12_init 732 = .ok (.putfield 324, 3) := by decide +kernel
theorem dX12_init_735 : decode cX12_init 735 = .ok (.aload_n 0, 1) := by decide +kernel
theorem dX12_init_736 : decode cX12_init 736 = .ok (.iconst 0, 1) := by decide +kernel
theorem dX12_init_737 : decode cX12_init 737 = .ok (.putfield 327, 3) := by decide +kernel
theorem dX12_init_740 : decode cX12_init 740 = .ok (.aload_n 0, 1) := by decide +kernel
theorem dX12_init_741 : decode cX12_init 741 = .ok (.iconst 0, 1) := by decide +kernel
theorem dX12_init_742 : decode cX12_init 742 = .ok (.putfield 330, 3) := by decide +kernel
theorem dX12_init_745 : decode cX12_init 745 = .ok (.aload_n 0, 1) := by decide +kernel
theorem dX12_init_746 : decode cX12_init 746 = .ok (.iconst 0, 1) := by decide +kernel
theorem dX12_init_747 : decode cX12_init 747 = .ok (.putfield 333, 3) := by decide +kernel
theorem dX12_init_750 : decode cX12_init 750 = .ok (.aload_n 0, 1) := by decide +kernel
theorem dX12_init_751 : decode cX12_init 751 = .ok (.iconst 0, 1) := by decide +kernel
theorem dX12_init_752 : decode cX12_init 752 = .ok (.putfield 336, 3) := by decide +kernel
theorem dX12_init_755 : decode cX12_init 755 = .ok (.aload_n 0, 1) := by decide +kernel
theorem dX12_init_756 : decode cX12_init 756 = .ok (.bipush 100, 2) := by decide +kernel
theorem dX12_init_758 : decode cX12_init 758 = .ok (.newarray .int, 2) := by decide +kernel
theorem dX12_init_760 : decode cX12_init 760 = .ok (.putfield 339, 3) := by decide +kernel
theorem dX12_init_763 : decode cX12_init 763 = .ok (.aload_n 0, 1) := by decide +kernel
theorem dX12_init_764 : decode cX12_init 764 = .ok (.bipush 100, 2) := by decide +kernel
theorem dX12_init_766 : decode cX12_init 766 = .ok (.newarray .int, 2) := by decide +kernel
theorem dX12_init_768 : decode cX12_init 768 = .ok (.putfield 342, 3) := by decide +kernel
theorem dX12_init_771 : decode cX12_init 771 = .ok (.aload_n 0, 1) := by decide +kernel
theorem dX12_init_772 : decode cX12_init 772 = .ok (.sipush 24000, 3) := by decide +kernel
theorem dX12_init_775 : decode cX12_init 775 = .ok (.newarray .byte, 2) := by decide +kernel
theorem dX12_init_777 : decode cX12_init 777 = .ok (.putfield 345, 3) := by decide +kernel
theorem dX12_init_780 : decode cX12_init 780 = .ok (.aload_n 0, 1) := by decide +kernel
theorem dX12_init_781 : decode cX12_init 781 = .ok (.sipush 24000, 3) := by decide +kernel
theorem dX12_init_784 : decode cX12_init 784 = .ok (.newarray .int, 2) := by decide +kernel
theorem dX12_init_786 : decode cX12_init 786 = .ok (.putfield 348, 3) := by decide +kernel
theorem dX12_init_789 : decode cX12_init 789 = .ok (.aload_n 0, 1) := by decide +kernel
theorem dX12_init_790 : decode cX12_init 790 = .ok (.sipush 24000, 3) := by decide +kernel
theorem dX12_init_793 : decode cX12_init 793 = .ok (.newarray .int, 2) := by decide +kernel
theorem dX12_init_795 : decode cX12_init 795 = .ok (.putfield 351, 3) := by decide +kernel
theorem dX12_init_798 : decode cX12_init 798 = .ok (.aload_n 0, 1) := by decide +kernel
theorem dX12_init_799 : decode cX12_init 799 = .ok (.iconst 4, 1) := by decide +kernel
theorem dX12_init_800 : decode cX12_init 800 = .ok (.newarray .int, 2) := by decide +kernel
theorem dX12_init_802 : decode cX12_init 802 = .ok (.putfield 354, 3) := by decide +kernel
theorem dX12_init_805 : decode cX12_init 805 = .ok (.aload_n 0, 1) := by decide +kernel
theorem dX12_init_806 : decode cX12_init 806 = .ok (.iconst 4, 1) := by decide +kernel
theorem dX12_init_807 : decode cX12_init 807 = .ok (.newarray .int, 2) := by decide +kernel
theorem dX12_init_809 : decode cX12_init 809 = .ok (.putfield 357, 3) := by decide +kernel
theorem dX12_init_812 : decode cX12_init 812 = .ok (.aload_n 0, 1) := by decide +kernel
theorem dX12_init_813 : decode cX12_init 813 = .ok (.iconst 0, 1) := by decide +kernel
theorem dX12_init_814 : decode cX12_init 814 = .ok (.putfield 360, 3) := by decide +kernel
theorem dX12_init_817 : decode cX12_init 817 = .ok (.aload_n 0, 1) := by decide +kernel
theorem dX12_init_818 : decode cX12_init 818 = .ok (.sipush 8192, 3) := by decide +kernel
theorem dX12_init_821 : decode cX12_init 821 = .ok (.newarray .byte, 2) := by decide +kernel
theorem dX12_init_823 : decode cX12_init 823 = .ok (.putfield 363, 3) := by decide +kernel
theorem dX12_init_826 : decode cX12_init 826 = .ok (.aload_n 0, 1) := by decide +kernel
theorem dX12_init_827 : decode cX12_init 827 = .ok (.iconst 2, 1) := by decide +kernel
theorem dX12_init_828 : decode cX12_init 828 = .ok (.newarray .int, 2) := by decide +kernel
theorem dX12_init_830 : decode cX12_init 830 = .ok (.putfield 366, 3) := by decide +kernel
theorem dX12_init_833 : decode cX12_init 833 = .ok (.aload_n 0, 1) := by decide +kernel
theorem dX12_init_834 : decode cX12_init 834 = .ok (.iconst 0, 1) := by decide +kernel
theorem dX12_init_835 : decode cX12_init 835 = .ok (.putfield 369, 3) := by decide +kernel
theorem dX12_init_838 : decode cX12_init 838 = .ok (.aload_n 0, 1) := by decide +kernel
theorem dX12_init_839 : decode cX12_init 839 = .ok (.bipush 12, 2) := by decide +kernel
theorem dX12_init_841 : decode cX12_init 841 = .ok (.newarray .byte, 2) := by decide +kernel
theorem dX12_init_843 : decode cX12_init 843 = .ok (.putfield 372, 3) := by decide +kernel
theorem dX12_init_846 : decode cX12_init 846 = .ok (.return_, 1) := by decide +kernel
theorem pNdup {xs : List Nat} (h : xs.Nodup) {i j x : Nat} (hi : xs[i]? = some x) (hj : xs[j]? = some x) : i = j := by
  obtain ⟨h1, e1⟩ := List.getElem?_eq_some_iff.mp hi
  exact (List.getElem?_inj h1 h).mp (hi.trans hj.symm)
/-- the scalars at the start -/
def pV0 : Nat → Int := fun j => [0, 0, 0, 0, 0, 0, 0, 0, 0, 0, 0, 0, 0, 0, 0, 0, 0, 0, 0, 0, 0, 0, 0, 0, 0, 0, 0, 0, 0, 0, 0, 0, 0, 0, 0, 0, 0, 0, 0, 0, 0, 0, 0, 0, 0, 0, 0, 0, 0, 0, 0, 0, 0, 0, 0, 0, 0, 0, 0, 0, 0, 0, 0, 0, 0, 0, 0, 0, 0, 0, 0, 0, 0, 0, 0, 0, 0, 0, 0, 0, 0, 0, 0, 0, 0, 0, 0, 0, 0, 0, 0, 0, 0, 0, 0, 0, 0, 0, 0, 4096, 4096, 0, 0, 0, 0, 0, 0, 0, 0, 0, 0, 0, 0, 0, 0, 0, 0, 0, 0].getD j 0
def pS0 : zS := (pV0, fun _ _ => 0)
def pPos : Nat → Nat := fun j => [0, 63, 0, 62, 0, 0, 61, 60, 0, 59, 58, 57, 0, 0, 56, 0, 55, 54, 0, 0, 0, 0, 0, 0, 0, 53, 52, 51, 50, 49, 48, 47, 46, 45, 44, 43, 42, 0, 0, 41, 40, 39, 38, 0, 0, 0, 37, 36, 0, 0, 35, 34, 33, 32, 31, 0, 30, 29, 0, 0, 28, 27, 26, 0, 25, 24, 23, 0, 22, 0, 21, 20, 19, 0, 0, 0, 0, 0, 0, 0, 0, 0, 0, 0, 0, 18, 17, 0, 16, 15, 14, 0, 13, 12, 11, 0, 0, 0, 10, 0, 0, 0, 0, 0, 0, 0, 0, 9, 8, 7, 6, 5, 4, 3, 0, 2, 1, 0, 0].getD j 0
def pInv : Nat → Nat := fun j => [118, 116, 115, 113, 112, 111, 110, 109, 108, 107, 98, 94, 93, 92, 90, 89, 88, 86, 85, 72, 71, 70, 68, 66, 65, 64, 62, 61, 60, 57, 56, 54, 53, 52, 51, 50, 47, 46, 42, 41, 40, 39, 36, 35, 34, 33, 32, 31, 30, 29, 28, 27, 26, 25, 17, 16, 14, 11, 10, 9, 7, 6, 3, 1].getD j 0
theorem zb_l {j : Nat} (h : zb j = true) : j < 119 := Nat.lt_of_not_le fun q => by
  have e : zb j = false := Nat.testBit_lt_two_pow (Nat.lt_of_lt_of_le (by decide +kernel) (Nat.pow_le_pow_right (by decide) q))
  rw [e] at h; exact absurd h (by decide)
theorem pInv_e : ∀ j, j < 119 → zb j = true → pInv (pPos j) = j := by decide +kernel
theorem pV0_R : ∀ j, zR (pV0 j) := fun j => by
  by_cases h : j < 119
  · have : ∀ j, j < 119 → zR (pV0 j) := by decide +kernel
    exact this j h
  · have e : pV0 j = 0 := by unfold pV0; rw [List.getD_eq_getElem?_getD, List.getElem?_eq_none (Nat.le_of_not_lt h)]; rfl
    rw [e]; decide
set_option maxHeartbeats 40000000 in
set_option maxRecDepth 100000 in
theorem k_R2 (l : Launch) (d : gD) (b : Nat) (F : gM) (t : Nat) (h : gRo F t gdv) : gMv l d b yX12_init cX12_init 1 1 64 3019308 F [.ref t] (fun F' => ∃ T : Nat → Nat, zW d F' t T pS0 ∧ gEx t F F' ∧ ∀ j, zb j = true → F (T j) = g0) := by
  refine gM_of2 rfl (nL := 1) (Nat.le_of_ble_eq_true rfl) ?_
  intro X hX hC; subst hX
  show gG X d b _ F 0 0 0 [some (.ref t)] []
  have h0 : gRk F F t gdv [] := ⟨h, by rw [h]; exact g0_o, gEx.rf, fun p hp => absurd hp List.not_mem_nil, List.nodup_nil⟩
  refine g_aload_n hC dX12_init_0 rfl ?_
  refine g_objInit hC dX12_init_1 kw_1951 rfl ⟨Nat.le_of_ble_eq_true rfl, Nat.le_of_ble_eq_true rfl⟩ (Nat.le_of_ble_eq_true rfl) ?_
  refine g_aload_n hC dX12_init_4 rfl ?_
  refine g_iconst (v := 0) hC dX12_init_5 rfl ?_
  refine g_rputF hC h0 fl_X12_7 rfl rfl (by decide) dX12_init_6 (fun F1 h2 => ?_)
  clear h0
  refine g_aload_n hC dX12_init_9 rfl ?_
  refine g_sipush (v := 6000) hC dX12_init_10 rfl ?_
  refine g_newa (atype := .byte) (N := 6000) (a0 := (6000, .inl (fun _ => 0))) hC 1 kw_506 rfl (by decide) (fun _ => rfl) (by decide) rfl (Nat.le_of_ble_eq_true rfl) (by first | exact Nat.le_of_ble_eq_true rfl | omega | (simp only [gR]; omega)) (by first | exact Nat.le_of_ble_eq_true rfl | omega | (simp only [gR]; omega)) dX12_init_13 (fun q3 e_q3 => ?_)
  refine g_vF (fun F4 hF4 => ?_)
  have h5 := h2.arr e_q3 g0_a hF4
  clear h2 hF4 e_q3
  refine g_rputF hC h5 fl_X12_13 rfl rfl (by decide) dX12_init_15 (fun F6 h7 => ?_)
  clear h5
  refine g_aload_n hC dX12_init_18 rfl ?_
  refine g_iconst (v := 0) hC dX12_init_19 rfl ?_
  refine g_rputF hC h7 fl_X12_17 rfl rfl (by decide) dX12_init_20 (fun F8 h9 => ?_)
  clear h7
  refine g_aload_n hC dX12_init_23 rfl ?_
  refine g_sipush (v := 6000) hC dX12_init_24 rfl ?_
  refine g_newa (atype := .byte) (N := 6000) (a0 := (6000, .inl (fun _ => 0))) hC 1 kw_506 rfl (by decide) (fun _ => rfl) (by decide) rfl (Nat.le_of_ble_eq_true rfl) (by first | exact Nat.le_of_ble_eq_true rfl | omega | (simp only [gR]; omega)) (by first | exact Nat.le_of_ble_eq_true rfl | omega | (simp only [gR]; omega)) dX12_init_27 (fun q10 e_q10 => ?_)
  refine g_vF (fun F11 hF11 => ?_)
  have h12 := h9.arr e_q10 g0_a hF11
  clear h9 hF11 e_q10
  refine g_rputF hC h12 fl_X12_20 rfl rfl (by decide) dX12_init_29 (fun F13 h14 => ?_)
  clear h12
  refine g_aload_n hC dX12_init_32 rfl ?_
  refine g_iconst (v := 0) hC dX12_init_33 rfl ?_
  refine g_rputF hC h14 fl_X12_23 rfl rfl (by decide) dX12_init_34 (fun F15 h16 => ?_)
  clear h14
  refine g_aload_n hC dX12_init_37 rfl ?_
  refine g_iconst (v := 0) hC dX12_init_38 rfl ?_
  refine g_rputF hC h16 fl_X12_26 rfl rfl (by decide) dX12_init_39 (fun F17 h18 => ?_)
  clear h16
  refine g_aload_n hC dX12_init_42 rfl ?_
  refine g_sipush (v := 3100) hC dX12_init_43 rfl ?_
  refine g_newa (atype := .int) (N := 3100) (a0 := (3100, .inl (fun _ => 0))) hC 0 kw_288 rfl (by decide) (fun _ => rfl) (by decide) rfl (Nat.le_of_ble_eq_true rfl) (by first | exact Nat.le_of_ble_eq_true rfl | omega | (simp only [gR]; omega)) (by first | exact Nat.le_of_ble_eq_true rfl | omega | (simp only [gR]; omega)) dX12_init_46 (fun q19 e_q19 => ?_)
  refine g_vF (fun F20 hF20 => ?_)
  have h21 := h18.arr e_q19 g0_a hF20
  clear h18 hF20 e_q19
  refine g_rputF hC h21 fl_X12_29 rfl rfl (by decide) dX12_init_48 (fun F22 h23 => ?_)
  clear h21
  refine g_aload_n hC dX12_init_51 rfl ?_
  refine g_sipush (v := 3100) hC dX12_init_52 rfl ?_
  refine g_newa (atype := .int) (N := 3100) (a0 := (3100, .inl (fun _ => 0))) hC 0 kw_288 rfl (by decide) (fun _ => rfl) (by decide) rfl (Nat.le_of_ble_eq_true rfl) (by first | exact Nat.le_of_ble_eq_true rfl | omega | (simp only [gR]; omega)) (by first | exact Nat.le_of_ble_eq_true rfl | omega | (simp only [gR]; omega)) dX12_init_55 (fun q24 e_q24 => ?_)
  refine g_vF (fun F25 hF25 => ?_)
  have h26 := h23.arr e_q24 g0_a hF25
  clear h23 hF25 e_q24
  refine g_rputF hC h26 fl_X12_33 rfl rfl (by decide) dX12_init_57 (fun F27 h28 => ?_)
  clear h26
  refine g_aload_n hC dX12_init_60 rfl ?_
  refine g_iconst (v := 0) hC dX12_init_61 rfl ?_
  refine g_rputF hC h28 fl_X12_36 rfl rfl (by decide) dX12_init_62 (fun F29 h30 => ?_)
  clear h28
  refine g_aload_n hC dX12_init_65 rfl ?_
  refine g_sipush (v := 12100) hC dX12_init_66 rfl ?_
  refine g_newa (atype := .int) (N := 12100) (a0 := (12100, .inl (fun _ => 0))) hC 0 kw_288 rfl (by decide) (fun _ => rfl) (by decide) rfl (Nat.le_of_ble_eq_true rfl) (by first | exact Nat.le_of_ble_eq_true rfl | omega | (simp only [gR]; omega)) (by first | exact Nat.le_of_ble_eq_true rfl | omega | (simp only [gR]; omega)) dX12_init_69 (fun q31 e_q31 => ?_)
  refine g_vF (fun F32 hF32 => ?_)
  have h33 := h30.arr e_q31 g0_a hF32
  clear h30 hF32 e_q31
  refine g_rputF hC h33 fl_X12_39 rfl rfl (by decide) dX12_init_71 (fun F34 h35 => ?_)
  clear h33
  refine g_aload_n hC dX12_init_74 rfl ?_
  refine g_sipush (v := 12100) hC dX12_init_75 rfl ?_
  refine g_newa (atype := .int) (N := 12100) (a0 := (12100, .inl (fun _ => 0))) hC 0 kw_288 rfl (by decide) (fun _ => rfl) (by decide) rfl (Nat.le_of_ble_eq_true rfl) (by first | exact Nat.le_of_ble_eq_true rfl | omega | (simp only [gR]; omega)) (by first | exact Nat.le_of_ble_eq_true rfl | omega | (simp only [gR]; omega)) dX12_init_78 (fun q36 e_q36 => ?_)
  refine g_vF (fun F37 hF37 => ?_)
  have h38 := h35.arr e_q36 g0_a hF37
  clear h35 hF37 e_q36
  refine g_rputF hC h38 fl_X12_42 rfl rfl (by decide) dX12_init_80 (fun F39 h40 => ?_)
  clear h38
  refine g_aload_n hC dX12_init_83 rfl ?_
  refine g_sipush (v := 12100) hC dX12_init_84 rfl ?_
  refine g_newa (atype := .int) (N := 12100) (a0 := (12100, .inl (fun _ => 0))) hC 0 kw_288 rfl (by decide) (fun _ => rfl) (by decide) rfl (Nat.le_of_ble_eq_true rfl) (by first | exact Nat.le_of_ble_eq_true rfl | omega | (simp only [gR]; omega)) (by first | exact Nat.le_of_ble_eq_true rfl | omega | (simp only [gR]; omega)) dX12_init_87 (fun q41 e_q41 => ?_)
  refine g_vF (fun F42 hF42 => ?_)
  have h43 := h40.arr e_q41 g0_a hF42
  clear h40 hF42 e_q41
  refine g_rputF hC h43 fl_X12_45 rfl rfl (by decide) dX12_init_89 (fun F44 h45 => ?_)
  clear h43
  refine g_aload_n hC dX12_init_92 rfl ?_
  refine g_iconst (v := 0) hC dX12_init_93 rfl ?_
  refine g_rputF hC h45 fl_X12_48 rfl rfl (by decide) dX12_init_94 (fun F46 h47 => ?_)
  clear h45
  refine g_aload_n hC dX12_init_97 rfl ?_
  refine g_iconst (v := 0) hC dX12_init_98 rfl ?_
  refine g_rputF hC h47 fl_X12_51 rfl rfl (by decide) dX12_init_99 (fun F48 h49 => ?_)
  clear h47
  refine g_aload_n hC dX12_init_102 rfl ?_
  refine g_sipush (v := 6000) hC dX12_init_103 rfl ?_
  refine g_newa (atype := .byte) (N := 6000) (a0 := (6000, .inl (fun _ => 0))) hC 1 kw_506 rfl (by decide) (fun _ => rfl) (by decide) rfl (Nat.le_of_ble_eq_true rfl) (by first | exact Nat.le_of_ble_eq_true rfl | omega | (simp only [gR]; omega)) (by first | exact Nat.le_of_ble_eq_true rfl | omega | (simp only [gR]; omega)) dX12_init_106 (fun q50 e_q50 => ?_)
  refine g_vF (fun F51 hF51 => ?_)
  have h52 := h49.arr e_q50 g0_a hF51
  clear h49 hF51 e_q50
  refine g_rputF hC h52 fl_X12_54 rfl rfl (by decide) dX12_init_108 (fun F53 h54 => ?_)
  clear h52
  refine g_aload_n hC dX12_init_111 rfl ?_
  refine g_iconst (v := 0) hC dX12_init_112 rfl ?_
  refine g_rputF hC h54 fl_X12_57 rfl rfl (by decide) dX12_init_113 (fun F55 h56 => ?_)
  clear h54
  refine g_aload_n hC dX12_init_116 rfl ?_
  refine g_sipush (v := 3100) hC dX12_init_117 rfl ?_
  refine g_newa (atype := .int) (N := 3100) (a0 := (3100, .inl (fun _ => 0))) hC 0 kw_288 rfl (by decide) (fun _ => rfl) (by decide) rfl (Nat.le_of_ble_eq_true rfl) (by first | exact Nat.le_of_ble_eq_true rfl | omega | (simp only [gR]; omega)) (by first | exact Nat.le_of_ble_eq_true rfl | omega | (simp only [gR]; omega)) dX12_init_120 (fun q57 e_q57 => ?_)
  refine g_vF (fun F58 hF58 => ?_)
  have h59 := h56.arr e_q57 g0_a hF58
  clear h56 hF58 e_q57
  refine g_rputF hC h59 fl_X12_60 rfl rfl (by decide) dX12_init_122 (fun F60 h61 => ?_)
  clear h59
  refine g_aload_n hC dX12_init_125 rfl ?_
  refine g_sipush (v := 3100) hC dX12_init_126 rfl ?_
  refine g_newa (atype := .int) (N := 3100) (a0 := (3100, .inl (fun _ => 0))) hC 0 kw_288 rfl (by decide) (fun _ => rfl) (by decide) rfl (Nat.le_of_ble_eq_true rfl) (by first | exact Nat.le_of_ble_eq_true rfl | omega | (simp only [gR]; omega)) (by first | exact Nat.le_of_ble_eq_true rfl | omega | (simp only [gR]; omega)) dX12_init_129 (fun q62 e_q62 => ?_)
  refine g_vF (fun F63 hF63 => ?_)
  have h64 := h61.arr e_q62 g0_a hF63
  clear h61 hF63 e_q62
  refine g_rputF hC h64 fl_X12_63 rfl rfl (by decide) dX12_init_131 (fun F65 h66 => ?_)
  clear h64
  refine g_aload_n hC dX12_init_134 rfl ?_
  refine g_iconst (v := 0) hC dX12_init_135 rfl ?_
  refine g_rputF hC h66 fl_X12_66 rfl rfl (by decide) dX12_init_136 (fun F67 h68 => ?_)
  clear h66
  refine g_aload_n hC dX12_init_139 rfl ?_
  refine g_iconst (v := 0) hC dX12_init_140 rfl ?_
  refine g_rputF hC h68 fl_X12_69 rfl rfl (by decide) dX12_init_141 (fun F69 h70 => ?_)
  clear h68
  refine g_aload_n hC dX12_init_144 rfl ?_
  refine g_iconst (v := 0) hC dX12_init_145 rfl ?_
  refine g_rputF hC h70 fl_X12_72 rfl rfl (by decide) dX12_init_146 (fun F71 h72 => ?_)
  clear h70
  refine g_aload_n hC dX12_init_149 rfl ?_
  refine g_iconst (v := 0) hC dX12_init_150 rfl ?_
  refine g_rputF hC h72 fl_X12_75 rfl rfl (by decide) dX12_init_151 (fun F73 h74 => ?_)
  clear h72
  refine g_aload_n hC dX12_init_154 rfl ?_
  refine g_iconst (v := 0) hC dX12_init_155 rfl ?_
  refine g_rputF hC h74 fl_X12_78 rfl rfl (by decide) dX12_init_156 (fun F75 h76 => ?_)
  clear h74
  refine g_aload_n hC dX12_init_159 rfl ?_
  refine g_iconst (v := 0) hC dX12_init_160 rfl ?_
  refine g_rputF hC h76 fl_X12_81 rfl rfl (by decide) dX12_init_161 (fun F77 h78 => ?_)
  clear h76
  refine g_aload_n hC dX12_init_164 rfl ?_
  refine g_iconst (v := 0) hC dX12_init_165 rfl ?_
  refine g_rputF hC h78 fl_X12_84 rfl rfl (by decide) dX12_init_166 (fun F79 h80 => ?_)
  clear h78
  refine g_aload_n hC dX12_init_169 rfl ?_
  refine g_sipush (v := 26000) hC dX12_init_170 rfl ?_
  refine g_newa (atype := .byte) (N := 26000) (a0 := (26000, .inl (fun _ => 0))) hC 1 kw_506 rfl (by decide) (fun _ => rfl) (by decide) rfl (Nat.le_of_ble_eq_true rfl) (by first | exact Nat.le_of_ble_eq_true rfl | omega | (simp only [gR]; omega)) (by first | exact Nat.le_of_ble_eq_true rfl | omega | (simp only [gR]; omega)) dX12_init_173 (fun q81 e_q81 => ?_)
  refine g_vF (fun F82 hF82 => ?_)
  have h83 := h80.arr e_q81 g0_a hF82
  clear h80 hF82 e_q81
  refine g_rputF hC h83 fl_X12_87 rfl rfl (by decide) dX12_init_175 (fun F84 h85 => ?_)
  clear h83
  refine g_aload_n hC dX12_init_178 rfl ?_
  refine g_sipush (v := 26000) hC dX12_init_179 rfl ?_
  refine g_newa (atype := .int) (N := 26000) (a0 := (26000, .inl (fun _ => 0))) hC 0 kw_288 rfl (by decide) (fun _ => rfl) (by decide) rfl (Nat.le_of_ble_eq_true rfl) (by first | exact Nat.le_of_ble_eq_true rfl | omega | (simp only [gR]; omega)) (by first | exact Nat.le_of_ble_eq_true rfl | omega | (simp only [gR]; omega)) dX12_init_182 (fun q86 e_q86 => ?_)
  refine g_vF (fun F87 hF87 => ?_)
  have h88 := h85.arr e_q86 g0_a hF87
  clear h85 hF87 e_q86
  refine g_rputF hC h88 fl_X12_90 rfl rfl (by decide) dX12_init_184 (fun F89 h90 => ?_)
  clear h88
  refine g_aload_n hC dX12_init_187 rfl ?_
  refine g_sipush (v := 26000) hC dX12_init_188 rfl ?_
  refine g_newa (atype := .int) (N := 26000) (a0 := (26000, .inl (fun _ => 0))) hC 0 kw_288 rfl (by decide) (fun _ => rfl) (by decide) rfl (Nat.le_of_ble_eq_true rfl) (by first | exact Nat.le_of_ble_eq_true rfl | omega | (simp only [gR]; omega)) (by first | exact Nat.le_of_ble_eq_true rfl | omega | (simp only [gR]; omega)) dX12_init_191 (fun q91 e_q91 => ?_)
  refine g_vF (fun F92 hF92 => ?_)
  have h93 := h90.arr e_q91 g0_a hF92
  clear h90 hF92 e_q91
  refine g_rputF hC h93 fl_X12_93 rfl rfl (by decide) dX12_init_193 (fun F94 h95 => ?_)
  clear h93
  refine g_aload_n hC dX12_init_196 rfl ?_
  refine g_sipush (v := 26000) hC dX12_init_197 rfl ?_
  refine g_newa (atype := .int) (N := 26000) (a0 := (26000, .inl (fun _ => 0))) hC 0 kw_288 rfl (by decide) (fun _ => rfl) (by decide) rfl (Nat.le_of_ble_eq_true rfl) (by first | exact Nat.le_of_ble_eq_true rfl | omega | (simp only [gR]; omega)) (by first | exact Nat.le_of_ble_eq_true rfl | omega | (simp only [gR]; omega)) dX12_init_200 (fun q96 e_q96 => ?_)
  refine g_vF (fun F97 hF97 => ?_)
  have h98 := h95.arr e_q96 g0_a hF97
  clear h95 hF97 e_q96
  refine g_rputF hC h98 fl_X12_96 rfl rfl (by decide) dX12_init_202 (fun F99 h100 => ?_)
  clear h98
  refine g_aload_n hC dX12_init_205 rfl ?_
  refine g_sipush (v := 26000) hC dX12_init_206 rfl ?_
  refine g_newa (atype := .int) (N := 26000) (a0 := (26000, .inl (fun _ => 0))) hC 0 kw_288 rfl (by decide) (fun _ => rfl) (by decide) rfl (Nat.le_of_ble_eq_true rfl) (by first | exact Nat.le_of_ble_eq_true rfl | omega | (simp only [gR]; omega)) (by first | exact Nat.le_of_ble_eq_true rfl | omega | (simp only [gR]; omega)) dX12_init_209 (fun q101 e_q101 => ?_)
  refine g_vF (fun F102 hF102 => ?_)
  have h103 := h100.arr e_q101 g0_a hF102
  clear h100 hF102 e_q101
  refine g_rputF hC h103 fl_X12_99 rfl rfl (by decide) dX12_init_211 (fun F104 h105 => ?_)
  clear h103
  refine g_aload_n hC dX12_init_214 rfl ?_
  refine g_sipush (v := 26000) hC dX12_init_215 rfl ?_
  refine g_newa (atype := .int) (N := 26000) (a0 := (26000, .inl (fun _ => 0))) hC 0 kw_288 rfl (by decide) (fun _ => rfl) (by decide) rfl (Nat.le_of_ble_eq_true rfl) (by first | exact Nat.le_of_ble_eq_true rfl | omega | (simp only [gR]; omega)) (by first | exact Nat.le_of_ble_eq_true rfl | omega | (simp only [gR]; omega)) dX12_init_218 (fun q106 e_q106 => ?_)
  refine g_vF (fun F107 hF107 => ?_)
  have h108 := h105.arr e_q106 g0_a hF107
  clear h105 hF107 e_q106
  refine g_rputF hC h108 fl_X12_102 rfl rfl (by decide) dX12_init_220 (fun F109 h110 => ?_)
  clear h108
  refine g_aload_n hC dX12_init_223 rfl ?_
  refine g_sipush (v := 26000) hC dX12_init_224 rfl ?_
  refine g_newa (atype := .int) (N := 26000) (a0 := (26000, .inl (fun _ => 0))) hC 0 kw_288 rfl (by decide) (fun _ => rfl) (by decide) rfl (Nat.le_of_ble_eq_true rfl) (by first | exact Nat.le_of_ble_eq_true rfl | omega | (simp only [gR]; omega)) (by first | exact Nat.le_of_ble_eq_true rfl | omega | (simp only [gR]; omega)) dX12_init_227 (fun q111 e_q111 => ?_)
  refine g_vF (fun F112 hF112 => ?_)
  have h113 := h110.arr e_q111 g0_a hF112
  clear h110 hF112 e_q111
  refine g_rputF hC h113 fl_X12_105 rfl rfl (by decide) dX12_init_229 (fun F114 h115 => ?_)
  clear h113
  refine g_aload_n hC dX12_init_232 rfl ?_
  refine g_sipush (v := 26000) hC dX12_init_233 rfl ?_
  refine g_newa (atype := .int) (N := 26000) (a0 := (26000, .inl (fun _ => 0))) hC 0 kw_288 rfl (by decide) (fun _ => rfl) (by decide) rfl (Nat.le_of_ble_eq_true rfl) (by first | exact Nat.le_of_ble_eq_true rfl | omega | (simp only [gR]; omega)) (by first | exact Nat.le_of_ble_eq_true rfl | omega | (simp only [gR]; omega)) dX12_init_236 (fun q116 e_q116 => ?_)
  refine g_vF (fun F117 hF117 => ?_)
  have h118 := h115.arr e_q116 g0_a hF117
  clear h115 hF117 e_q116
  refine g_rputF hC h118 fl_X12_108 rfl rfl (by decide) dX12_init_238 (fun F119 h120 => ?_)
  clear h118
  refine g_aload_n hC dX12_init_241 rfl ?_
  refine g_sipush (v := 26000) hC dX12_init_242 rfl ?_
  refine g_newa (atype := .int) (N := 26000) (a0 := (26000, .inl (fun _ => 0))) hC 0 kw_288 rfl (by decide) (fun _ => rfl) (by decide) rfl (Nat.le_of_ble_eq_true rfl) (by first | exact Nat.le_of_ble_eq_true rfl | omega | (simp only [gR]; omega)) (by first | exact Nat.le_of_ble_eq_true rfl | omega | (simp only [gR]; omega)) dX12_init_245 (fun q121 e_q121 => ?_)
  refine g_vF (fun F122 hF122 => ?_)
  have h123 := h120.arr e_q121 g0_a hF122
  clear h120 hF122 e_q121
  refine g_rputF hC h123 fl_X12_111 rfl rfl (by decide) dX12_init_247 (fun F124 h125 => ?_)
  clear h123
  refine g_aload_n hC dX12_init_250 rfl ?_
  refine g_sipush (v := 26000) hC dX12_init_251 rfl ?_
  refine g_newa (atype := .int) (N := 26000) (a0 := (26000, .inl (fun _ => 0))) hC 0 kw_288 rfl (by decide) (fun _ => rfl) (by decide) rfl (Nat.le_of_ble_eq_true rfl) (by first | exact Nat.le_of_ble_eq_true rfl | omega | (simp only [gR]; omega)) (by first | exact Nat.le_of_ble_eq_true rfl | omega | (simp only [gR]; omega)) dX12_init_254 (fun q126 e_q126 => ?_)
  refine g_vF (fun F127 hF127 => ?_)
  have h128 := h125.arr e_q126 g0_a hF127
  clear h125 hF127 e_q126
  refine g_rputF hC h128 fl_X12_114 rfl rfl (by decide) dX12_init_256 (fun F129 h130 => ?_)
  clear h128
  refine g_aload_n hC dX12_init_259 rfl ?_
  refine g_sipush (v := 26000) hC dX12_init_260 rfl ?_
  refine g_newa (atype := .boolean) (N := 26000) (a0 := (26000, .inl (fun _ => 0))) hC 2 kw_2314 rfl (by decide) (fun _ => rfl) (by decide) rfl (Nat.le_of_ble_eq_true rfl) (by first | exact Nat.le_of_ble_eq_true rfl | omega | (simp only [gR]; omega)) (by first | exact Nat.le_of_ble_eq_true rfl | omega | (simp only [gR]; omega)) dX12_init_263 (fun q131 e_q131 => ?_)
  refine g_vF (fun F132 hF132 => ?_)
  have h133 := h130.arr e_q131 g0_a hF132
  clear h130 hF132 e_q131
  refine g_rputF hC h133 fl_X12_117 rfl rfl (by decide) dX12_init_265 (fun F134 h135 => ?_)
  clear h133
  refine g_aload_n hC dX12_init_268 rfl ?_
  refine g_sipush (v := 26000) hC dX12_init_269 rfl ?_
  refine g_newa (atype := .int) (N := 26000) (a0 := (26000, .inl (fun _ => 0))) hC 0 kw_288 rfl (by decide) (fun _ => rfl) (by decide) rfl (Nat.le_of_ble_eq_true rfl) (by first | exact Nat.le_of_ble_eq_true rfl | omega | (simp only [gR]; omega)) (by first | exact Nat.le_of_ble_eq_true rfl | omega | (simp only [gR]; omega)) dX12_init_272 (fun q136 e_q136 => ?_)
  refine g_vF (fun F137 hF137 => ?_)
  have h138 := h135.arr e_q136 g0_a hF137
  clear h135 hF137 e_q136
  refine g_rputF hC h138 fl_X12_121 rfl rfl (by decide) dX12_init_274 (fun F139 h140 => ?_)
  clear h138
  refine g_aload_n hC dX12_init_277 rfl ?_
  refine g_iconst (v := 0) hC dX12_init_278 rfl ?_
  refine g_rputF hC h140 fl_X12_124 rfl rfl (by decide) dX12_init_279 (fun F141 h142 => ?_)
  clear h140
  refine g_aload_n hC dX12_init_282 rfl ?_
  refine g_iconst (v := 0) hC dX12_init_283 rfl ?_
  refine g_rputF hC h142 fl_X12_127 rfl rfl (by decide) dX12_init_284 (fun F143 h144 => ?_)
  clear h142
  refine g_aload_n hC dX12_init_287 rfl ?_
  refine g_sipush (v := 9000) hC dX12_init_288 rfl ?_
  refine g_newa (atype := .int) (N := 9000) (a0 := (9000, .inl (fun _ => 0))) hC 0 kw_288 rfl (by decide) (fun _ => rfl) (by decide) rfl (Nat.le_of_ble_eq_true rfl) (by first | exact Nat.le_of_ble_eq_true rfl | omega | (simp only [gR]; omega)) (by first | exact Nat.le_of_ble_eq_true rfl | omega | (simp only [gR]; omega)) dX12_init_291 (fun q145 e_q145 => ?_)
  refine g_vF (fun F146 hF146 => ?_)
  have h147 := h144.arr e_q145 g0_a hF146
  clear h144 hF146 e_q145
  refine g_rputF hC h147 fl_X12_130 rfl rfl (by decide) dX12_init_293 (fun F148 h149 => ?_)
  clear h147
  refine g_aload_n hC dX12_init_296 rfl ?_
  refine g_sipush (v := 9000) hC dX12_init_297 rfl ?_
  refine g_newa (atype := .int) (N := 9000) (a0 := (9000, .inl (fun _ => 0))) hC 0 kw_288 rfl (by decide) (fun _ => rfl) (by decide) rfl (Nat.le_of_ble_eq_true rfl) (by first | exact Nat.le_of_ble_eq_true rfl | omega | (simp only [gR]; omega)) (by first | exact Nat.le_of_ble_eq_true rfl | omega | (simp only [gR]; omega)) dX12_init_300 (fun q150 e_q150 => ?_)
  refine g_vF (fun F151 hF151 => ?_)
  have h152 := h149.arr e_q150 g0_a hF151
  clear h149 hF151 e_q150
  refine g_rputF hC h152 fl_X12_133 rfl rfl (by decide) dX12_init_302 (fun F153 h154 => ?_)
  clear h152
  refine g_aload_n hC dX12_init_305 rfl ?_
  refine g_sipush (v := 9000) hC dX12_init_306 rfl ?_
  refine g_newa (atype := .int) (N := 9000) (a0 := (9000, .inl (fun _ => 0))) hC 0 kw_288 rfl (by decide) (fun _ => rfl) (by decide) rfl (Nat.le_of_ble_eq_true rfl) (by first | exact Nat.le_of_ble_eq_true rfl | omega | (simp only [gR]; omega)) (by first | exact Nat.le_of_ble_eq_true rfl | omega | (simp only [gR]; omega)) dX12_init_309 (fun q155 e_q155 => ?_)
  refine g_vF (fun F156 hF156 => ?_)
  have h157 := h154.arr e_q155 g0_a hF156
  clear h154 hF156 e_q155
  refine g_rputF hC h157 fl_X12_136 rfl rfl (by decide) dX12_init_311 (fun F158 h159 => ?_)
  clear h157
  refine g_aload_n hC dX12_init_314 rfl ?_
  refine g_sipush (v := 9000) hC dX12_init_315 rfl ?_
  refine g_newa (atype := .int) (N := 9000) (a0 := (9000, .inl (fun _ => 0))) hC 0 kw_288 rfl (by decide) (fun _ => rfl) (by decide) rfl (Nat.le_of_ble_eq_true rfl) (by first | exact Nat.le_of_ble_eq_true rfl | omega | (simp only [gR]; omega)) (by first | exact Nat.le_of_ble_eq_true rfl | omega | (simp only [gR]; omega)) dX12_init_318 (fun q160 e_q160 => ?_)
  refine g_vF (fun F161 hF161 => ?_)
  have h162 := h159.arr e_q160 g0_a hF161
  clear h159 hF161 e_q160
  refine g_rputF hC h162 fl_X12_139 rfl rfl (by decide) dX12_init_320 (fun F163 h164 => ?_)
  clear h162
  refine g_aload_n hC dX12_init_323 rfl ?_
  refine g_iconst (v := 0) hC dX12_init_324 rfl ?_
  refine g_rputF hC h164 fl_X12_142 rfl rfl (by decide) dX12_init_325 (fun F165 h166 => ?_)
  clear h164
  refine g_aload_n hC dX12_init_328 rfl ?_
  refine g_iconst (v := 0) hC dX12_init_329 rfl ?_
  refine g_rputF hC h166 fl_X12_145 rfl rfl (by decide) dX12_init_330 (fun F167 h168 => ?_)
  clear h166
  refine g_aload_n hC dX12_init_333 rfl ?_
  refine g_iconst (v := 0) hC dX12_init_334 rfl ?_
  refine g_rputF hC h168 fl_X12_148 rfl rfl (by decide) dX12_init_335 (fun F169 h170 => ?_)
  clear h168
  refine g_aload_n hC dX12_init_338 rfl ?_
  refine g_bipush (v := 70) hC dX12_init_339 rfl ?_
  refine g_newa (atype := .int) (N := 70) (a0 := (70, .inl (fun _ => 0))) hC 0 kw_288 rfl (by decide) (fun _ => rfl) (by decide) rfl (Nat.le_of_ble_eq_true rfl) (by first | exact Nat.le_of_ble_eq_true rfl | omega | (simp only [gR]; omega)) (by first | exact Nat.le_of_ble_eq_true rfl | omega | (simp only [gR]; omega)) dX12_init_341 (fun q171 e_q171 => ?_)
  refine g_vF (fun F172 hF172 => ?_)
  have h173 := h170.arr e_q171 g0_a hF172
  clear h170 hF172 e_q171
  refine g_rputF hC h173 fl_X12_151 rfl rfl (by decide) dX12_init_343 (fun F174 h175 => ?_)
  clear h173
  refine g_aload_n hC dX12_init_346 rfl ?_
  refine g_bipush (v := 70) hC dX12_init_347 rfl ?_
  refine g_newa (atype := .int) (N := 70) (a0 := (70, .inl (fun _ => 0))) hC 0 kw_288 rfl (by decide) (fun _ => rfl) (by decide) rfl (Nat.le_of_ble_eq_true rfl) (by first | exact Nat.le_of_ble_eq_true rfl | omega | (simp only [gR]; omega)) (by first | exact Nat.le_of_ble_eq_true rfl | omega | (simp only [gR]; omega)) dX12_init_349 (fun q176 e_q176 => ?_)
  refine g_vF (fun F177 hF177 => ?_)
  have h178 := h175.arr e_q176 g0_a hF177
  clear h175 hF177 e_q176
  refine g_rputF hC h178 fl_X12_154 rfl rfl (by decide) dX12_init_351 (fun F179 h180 => ?_)
  clear h178
  refine g_aload_n hC dX12_init_354 rfl ?_
  refine g_iconst (v := 0) hC dX12_init_355 rfl ?_
  refine g_rputF hC h180 fl_X12_157 rfl rfl (by decide) dX12_init_356 (fun F181 h182 => ?_)
  clear h180
  refine g_aload_n hC dX12_init_359 rfl ?_
  refine g_iconst (v := 0) hC dX12_init_360 rfl ?_
  refine g_rputF hC h182 fl_X12_160 rfl rfl (by decide) dX12_init_361 (fun F183 h184 => ?_)
  clear h182
  refine g_aload_n hC dX12_init_364 rfl ?_
  refine g_sipush (v := 9000) hC dX12_init_365 rfl ?_
  refine g_newa (atype := .int) (N := 9000) (a0 := (9000, .inl (fun _ => 0))) hC 0 kw_288 rfl (by decide) (fun _ => rfl) (by decide) rfl (Nat.le_of_ble_eq_true rfl) (by first | exact Nat.le_of_ble_eq_true rfl | omega | (simp only [gR]; omega)) (by first | exact Nat.le_of_ble_eq_true rfl | omega | (simp only [gR]; omega)) dX12_init_368 (fun q185 e_q185 => ?_)
  refine g_vF (fun F186 hF186 => ?_)
  have h187 := h184.arr e_q185 g0_a hF186
  clear h184 hF186 e_q185
  refine g_rputF hC h187 fl_X12_163 rfl rfl (by decide) dX12_init_370 (fun F188 h189 => ?_)
  clear h187
  refine g_aload_n hC dX12_init_373 rfl ?_
  refine g_sipush (v := 9000) hC dX12_init_374 rfl ?_
  refine g_newa (atype := .int) (N := 9000) (a0 := (9000, .inl (fun _ => 0))) hC 0 kw_288 rfl (by decide) (fun _ => rfl) (by decide) rfl (Nat.le_of_ble_eq_true rfl) (by first | exact Nat.le_of_ble_eq_true rfl | omega | (simp only [gR]; omega)) (by first | exact Nat.le_of_ble_eq_true rfl | omega | (simp only [gR]; omega)) dX12_init_377 (fun q190 e_q190 => ?_)
  refine g_vF (fun F191 hF191 => ?_)
  have h192 := h189.arr e_q190 g0_a hF191
  clear h189 hF191 e_q190
  refine g_rputF hC h192 fl_X12_166 rfl rfl (by decide) dX12_init_379 (fun F193 h194 => ?_)
  clear h192
  refine g_aload_n hC dX12_init_382 rfl ?_
  refine g_sipush (v := 9000) hC dX12_init_383 rfl ?_
  refine g_newa (atype := .int) (N := 9000) (a0 := (9000, .inl (fun _ => 0))) hC 0 kw_288 rfl (by decide) (fun _ => rfl) (by decide) rfl (Nat.le_of_ble_eq_true rfl) (by first | exact Nat.le_of_ble_eq_true rfl | omega | (simp only [gR]; omega)) (by first | exact Nat.le_of_ble_eq_true rfl | omega | (simp only [gR]; omega)) dX12_init_386 (fun q195 e_q195 => ?_)
  refine g_vF (fun F196 hF196 => ?_)
  have h197 := h194.arr e_q195 g0_a hF196
  clear h194 hF196 e_q195
  refine g_rputF hC h197 fl_X12_169 rfl rfl (by decide) dX12_init_388 (fun F198 h199 => ?_)
  clear h197
  refine g_aload_n hC dX12_init_391 rfl ?_
  refine g_sipush (v := 9000) hC dX12_init_392 rfl ?_
  refine g_newa (atype := .int) (N := 9000) (a0 := (9000, .inl (fun _ => 0))) hC 0 kw_288 rfl (by decide) (fun _ => rfl) (by decide) rfl (Nat.le_of_ble_eq_true rfl) (by first | exact Nat.le_of_ble_eq_true rfl | omega | (simp only [gR]; omega)) (by first | exact Nat.le_of_ble_eq_true rfl | omega | (simp only [gR]; omega)) dX12_init_395 (fun q200 e_q200 => ?_)
  refine g_vF (fun F201 hF201 => ?_)
  have h202 := h199.arr e_q200 g0_a hF201
  clear h199 hF201 e_q200
  refine g_rputF hC h202 fl_X12_172 rfl rfl (by decide) dX12_init_397 (fun F203 h204 => ?_)
  clear h202
  refine g_aload_n hC dX12_init_400 rfl ?_
  refine g_sipush (v := 9000) hC dX12_init_401 rfl ?_
  refine g_newa (atype := .int) (N := 9000) (a0 := (9000, .inl (fun _ => 0))) hC 0 kw_288 rfl (by decide) (fun _ => rfl) (by decide) rfl (Nat.le_of_ble_eq_true rfl) (by first | exact Nat.le_of_ble_eq_true rfl | omega | (simp only [gR]; omega)) (by first | exact Nat.le_of_ble_eq_true rfl | omega | (simp only [gR]; omega)) dX12_init_404 (fun q205 e_q205 => ?_)
  refine g_vF (fun F206 hF206 => ?_)
  have h207 := h204.arr e_q205 g0_a hF206
  clear h204 hF206 e_q205
  refine g_rputF hC h207 fl_X12_175 rfl rfl (by decide) dX12_init_406 (fun F208 h209 => ?_)
  clear h207
  refine g_aload_n hC dX12_init_409 rfl ?_
  refine g_iconst (v := 0) hC dX12_init_410 rfl ?_
  refine g_rputF hC h209 fl_X12_178 rfl rfl (by decide) dX12_init_411 (fun F210 h211 => ?_)
  clear h209
  refine g_aload_n hC dX12_init_414 rfl ?_
  refine g_bipush (v := 18) hC dX12_init_415 rfl ?_
  refine g_newa (atype := .int) (N := 18) (a0 := (18, .inl (fun _ => 0))) hC 0 kw_288 rfl (by decide) (fun _ => rfl) (by decide) rfl (Nat.le_of_ble_eq_true rfl) (by first | exact Nat.le_of_ble_eq_true rfl | omega | (simp only [gR]; omega)) (by first | exact Nat.le_of_ble_eq_true rfl | omega | (simp only [gR]; omega)) dX12_init_417 (fun q212 e_q212 => ?_)
  refine g_vF (fun F213 hF213 => ?_)
  have h214 := h211.arr e_q212 g0_a hF213
  clear h211 hF213 e_q212
  refine g_rputF hC h214 fl_X12_181 rfl rfl (by decide) dX12_init_419 (fun F215 h216 => ?_)
  clear h214
  refine g_aload_n hC dX12_init_422 rfl ?_
  refine g_sipush (v := 9000) hC dX12_init_423 rfl ?_
  refine g_newa (atype := .int) (N := 9000) (a0 := (9000, .inl (fun _ => 0))) hC 0 kw_288 rfl (by decide) (fun _ => rfl) (by decide) rfl (Nat.le_of_ble_eq_true rfl) (by first | exact Nat.le_of_ble_eq_true rfl | omega | (simp only [gR]; omega)) (by first | exact Nat.le_of_ble_eq_true rfl | omega | (simp only [gR]; omega)) dX12_init_426 (fun q217 e_q217 => ?_)
  refine g_vF (fun F218 hF218 => ?_)
  have h219 := h216.arr e_q217 g0_a hF218
  clear h216 hF218 e_q217
  refine g_rputF hC h219 fl_X12_184 rfl rfl (by decide) dX12_init_428 (fun F220 h221 => ?_)
  clear h219
  refine g_aload_n hC dX12_init_431 rfl ?_
  refine g_iconst (v := 0) hC dX12_init_432 rfl ?_
  refine g_rputF hC h221 fl_X12_187 rfl rfl (by decide) dX12_init_433 (fun F222 h223 => ?_)
  clear h221
  refine g_aload_n hC dX12_init_436 rfl ?_
  refine g_iconst (v := 0) hC dX12_init_437 rfl ?_
  refine g_rputF hC h223 fl_X12_191 rfl rfl (by decide) dX12_init_438 (fun F224 h225 => ?_)
  clear h223
  refine g_aload_n hC dX12_init_441 rfl ?_
  refine g_sipush (v := 26000) hC dX12_init_442 rfl ?_
  refine g_newa (atype := .int) (N := 26000) (a0 := (26000, .inl (fun _ => 0))) hC 0 kw_288 rfl (by decide) (fun _ => rfl) (by decide) rfl (Nat.le_of_ble_eq_true rfl) (by first | exact Nat.le_of_ble_eq_true rfl | omega | (simp only [gR]; omega)) (by first | exact Nat.le_of_ble_eq_true rfl | omega | (simp only [gR]; omega)) dX12_init_445 (fun q226 e_q226 => ?_)
  refine g_vF (fun F227 hF227 => ?_)
  have h228 := h225.arr e_q226 g0_a hF227
  clear h225 hF227 e_q226
  refine g_rputF hC h228 fl_X12_194 rfl rfl (by decide) dX12_init_447 (fun F229 h230 => ?_)
  clear h228
  refine g_aload_n hC dX12_init_450 rfl ?_
  refine g_sipush (v := 26000) hC dX12_init_451 rfl ?_
  refine g_newa (atype := .int) (N := 26000) (a0 := (26000, .inl (fun _ => 0))) hC 0 kw_288 rfl (by decide) (fun _ => rfl) (by decide) rfl (Nat.le_of_ble_eq_true rfl) (by first | exact Nat.le_of_ble_eq_true rfl | omega | (simp only [gR]; omega)) (by first | exact Nat.le_of_ble_eq_true rfl | omega | (simp only [gR]; omega)) dX12_init_454 (fun q231 e_q231 => ?_)
  refine g_vF (fun F232 hF232 => ?_)
  have h233 := h230.arr e_q231 g0_a hF232
  clear h230 hF232 e_q231
  refine g_rputF hC h233 fl_X12_197 rfl rfl (by decide) dX12_init_456 (fun F234 h235 => ?_)
  clear h233
  refine g_aload_n hC dX12_init_459 rfl ?_
  refine g_sipush (v := 26000) hC dX12_init_460 rfl ?_
  refine g_newa (atype := .int) (N := 26000) (a0 := (26000, .inl (fun _ => 0))) hC 0 kw_288 rfl (by decide) (fun _ => rfl) (by decide) rfl (Nat.le_of_ble_eq_true rfl) (by first | exact Nat.le_of_ble_eq_true rfl | omega | (simp only [gR]; omega)) (by first | exact Nat.le_of_ble_eq_true rfl | omega | (simp only [gR]; omega)) dX12_init_463 (fun q236 e_q236 => ?_)
  refine g_vF (fun F237 hF237 => ?_)
  have h238 := h235.arr e_q236 g0_a hF237
  clear h235 hF237 e_q236
  refine g_rputF hC h238 fl_X12_200 rfl rfl (by decide) dX12_init_465 (fun F239 h240 => ?_)
  clear h238
  refine g_aload_n hC dX12_init_468 rfl ?_
  refine g_iconst (v := 0) hC dX12_init_469 rfl ?_
  refine g_rputF hC h240 fl_X12_203 rfl rfl (by decide) dX12_init_470 (fun F241 h242 => ?_)
  clear h240
  refine g_aload_n hC dX12_init_473 rfl ?_
  refine g_sipush (v := 26000) hC dX12_init_474 rfl ?_
  refine g_newa (atype := .int) (N := 26000) (a0 := (26000, .inl (fun _ => 0))) hC 0 kw_288 rfl (by decide) (fun _ => rfl) (by decide) rfl (Nat.le_of_ble_eq_true rfl) (by first | exact Nat.le_of_ble_eq_true rfl | omega | (simp only [gR]; omega)) (by first | exact Nat.le_of_ble_eq_true rfl | omega | (simp only [gR]; omega)) dX12_init_477 (fun q243 e_q243 => ?_)
  refine g_vF (fun F244 hF244 => ?_)
  have h245 := h242.arr e_q243 g0_a hF244
  clear h242 hF244 e_q243
  refine g_rputF hC h245 fl_X12_206 rfl rfl (by decide) dX12_init_479 (fun F246 h247 => ?_)
  clear h245
  refine g_aload_n hC dX12_init_482 rfl ?_
  refine g_sipush (v := 26000) hC dX12_init_483 rfl ?_
  refine g_newa (atype := .int) (N := 26000) (a0 := (26000, .inl (fun _ => 0))) hC 0 kw_288 rfl (by decide) (fun _ => rfl) (by decide) rfl (Nat.le_of_ble_eq_true rfl) (by first | exact Nat.le_of_ble_eq_true rfl | omega | (simp only [gR]; omega)) (by first | exact Nat.le_of_ble_eq_true rfl | omega | (simp only [gR]; omega)) dX12_init_486 (fun q248 e_q248 => ?_)
  refine g_vF (fun F249 hF249 => ?_)
  have h250 := h247.arr e_q248 g0_a hF249
  clear h247 hF249 e_q248
  refine g_rputF hC h250 fl_X12_209 rfl rfl (by decide) dX12_init_488 (fun F251 h252 => ?_)
  clear h250
  refine g_aload_n hC dX12_init_491 rfl ?_
  refine g_sipush (v := 26000) hC dX12_init_492 rfl ?_
  refine g_newa (atype := .int) (N := 26000) (a0 := (26000, .inl (fun _ => 0))) hC 0 kw_288 rfl (by decide) (fun _ => rfl) (by decide) rfl (Nat.le_of_ble_eq_true rfl) (by first | exact Nat.le_of_ble_eq_true rfl | omega | (simp only [gR]; omega)) (by first | exact Nat.le_of_ble_eq_true rfl | omega | (simp only [gR]; omega)) dX12_init_495 (fun q253 e_q253 => ?_)
  refine g_vF (fun F254 hF254 => ?_)
  have h255 := h252.arr e_q253 g0_a hF254
  clear h252 hF254 e_q253
  refine g_rputF hC h255 fl_X12_212 rfl rfl (by decide) dX12_init_497 (fun F256 h257 => ?_)
  clear h255
  refine g_aload_n hC dX12_init_500 rfl ?_
  refine g_iconst (v := 0) hC dX12_init_501 rfl ?_
  refine g_rputF hC h257 fl_X12_215 rfl rfl (by decide) dX12_init_502 (fun F258 h259 => ?_)
  clear h257
  refine g_aload_n hC dX12_init_505 rfl ?_
  refine g_ldc hC dX12_init_506 kw_1952 ?_
  refine g_newa (atype := .int) (N := 60000) (a0 := (60000, .inl (fun _ => 0))) hC 0 kw_288 rfl (by decide) (fun _ => rfl) (by decide) rfl (Nat.le_of_ble_eq_true rfl) (by first | exact Nat.le_of_ble_eq_true rfl | omega | (simp only [gR]; omega)) (by first | exact Nat.le_of_ble_eq_true rfl | omega | (simp only [gR]; omega)) dX12_init_508 (fun q260 e_q260 => ?_)
  refine g_vF (fun F261 hF261 => ?_)
  have h262 := h259.arr e_q260 g0_a hF261
  clear h259 hF261 e_q260
  refine g_rputF hC h262 fl_X12_219 rfl rfl (by decide) dX12_init_510 (fun F263 h264 => ?_)
  clear h262
  refine g_aload_n hC dX12_init_513 rfl ?_
  refine g_iconst (v := 0) hC dX12_init_514 rfl ?_
  refine g_rputF hC h264 fl_X12_222 rfl rfl (by decide) dX12_init_515 (fun F265 h266 => ?_)
  clear h264
  refine g_aload_n hC dX12_init_518 rfl ?_
  refine g_sipush (v := 3100) hC dX12_init_519 rfl ?_
  refine g_newa (atype := .int) (N := 3100) (a0 := (3100, .inl (fun _ => 0))) hC 0 kw_288 rfl (by decide) (fun _ => rfl) (by decide) rfl (Nat.le_of_ble_eq_true rfl) (by first | exact Nat.le_of_ble_eq_true rfl | omega | (simp only [gR]; omega)) (by first | exact Nat.le_of_ble_eq_true rfl | omega | (simp only [gR]; omega)) dX12_init_522 (fun q267 e_q267 => ?_)
  refine g_vF (fun F268 hF268 => ?_)
  have h269 := h266.arr e_q267 g0_a hF268
  clear h266 hF268 e_q267
  refine g_rputF hC h269 fl_X12_225 rfl rfl (by decide) dX12_init_524 (fun F270 h271 => ?_)
  clear h269
  refine g_aload_n hC dX12_init_527 rfl ?_
  refine g_sipush (v := 3100) hC dX12_init_528 rfl ?_
  refine g_newa (atype := .int) (N := 3100) (a0 := (3100, .inl (fun _ => 0))) hC 0 kw_288 rfl (by decide) (fun _ => rfl) (by decide) rfl (Nat.le_of_ble_eq_true rfl) (by first | exact Nat.le_of_ble_eq_true rfl | omega | (simp only [gR]; omega)) (by first | exact Nat.le_of_ble_eq_true rfl | omega | (simp only [gR]; omega)) dX12_init_531 (fun q272 e_q272 => ?_)
  refine g_vF (fun F273 hF273 => ?_)
  have h274 := h271.arr e_q272 g0_a hF273
  clear h271 hF273 e_q272
  refine g_rputF hC h274 fl_X12_228 rfl rfl (by decide) dX12_init_533 (fun F275 h276 => ?_)
  clear h274
  refine g_aload_n hC dX12_init_536 rfl ?_
  refine g_sipush (v := 3100) hC dX12_init_537 rfl ?_
  refine g_newa (atype := .int) (N := 3100) (a0 := (3100, .inl (fun _ => 0))) hC 0 kw_288 rfl (by decide) (fun _ => rfl) (by decide) rfl (Nat.le_of_ble_eq_true rfl) (by first | exact Nat.le_of_ble_eq_true rfl | omega | (simp only [gR]; omega)) (by first | exact Nat.le_of_ble_eq_true rfl | omega | (simp only [gR]; omega)) dX12_init_540 (fun q277 e_q277 => ?_)
  refine g_vF (fun F278 hF278 => ?_)
  have h279 := h276.arr e_q277 g0_a hF278
  clear h276 hF278 e_q277
  refine g_rputF hC h279 fl_X12_231 rfl rfl (by decide) dX12_init_542 (fun F280 h281 => ?_)
  clear h279
  refine g_aload_n hC dX12_init_545 rfl ?_
  refine g_iconst (v := 0) hC dX12_init_546 rfl ?_
  refine g_rputF hC h281 fl_X12_234 rfl rfl (by decide) dX12_init_547 (fun F282 h283 => ?_)
  clear h281
  refine g_aload_n hC dX12_init_550 rfl ?_
  refine g_iconst (v := 0) hC dX12_init_551 rfl ?_
  refine g_rputF hC h283 fl_X12_237 rfl rfl (by decide) dX12_init_552 (fun F284 h285 => ?_)
  clear h283
  refine g_aload_n hC dX12_init_555 rfl ?_
  refine g_iconst (v := 0) hC dX12_init_556 rfl ?_
  refine g_rputF hC h285 fl_X12_240 rfl rfl (by decide) dX12_init_557 (fun F286 h287 => ?_)
  clear h285
  refine g_aload_n hC dX12_init_560 rfl ?_
  refine g_iconst (v := 0) hC dX12_init_561 rfl ?_
  refine g_rputF hC h287 fl_X12_243 rfl rfl (by decide) dX12_init_562 (fun F288 h289 => ?_)
  clear h287
  refine g_aload_n hC dX12_init_565 rfl ?_
  refine g_iconst (v := 0) hC dX12_init_566 rfl ?_
  refine g_rputF hC h289 fl_X12_246 rfl rfl (by decide) dX12_init_567 (fun F290 h291 => ?_)
  clear h289
  refine g_aload_n hC dX12_init_570 rfl ?_
  refine g_iconst (v := 0) hC dX12_init_571 rfl ?_
  refine g_rputF hC h291 fl_X12_249 rfl rfl (by decide) dX12_init_572 (fun F292 h293 => ?_)
  clear h291
  refine g_aload_n hC dX12_init_575 rfl ?_
  refine g_iconst (v := 0) hC dX12_init_576 rfl ?_
  refine g_rputF hC h293 fl_X12_252 rfl rfl (by decide) dX12_init_577 (fun F294 h295 => ?_)
  clear h293
  refine g_aload_n hC dX12_init_580 rfl ?_
  refine g_iconst (v := 0) hC dX12_init_581 rfl ?_
  refine g_rputF hC h295 fl_X12_255 rfl rfl (by decide) dX12_init_582 (fun F296 h297 => ?_)
  clear h295
  refine g_aload_n hC dX12_init_585 rfl ?_
  refine g_iconst (v := 0) hC dX12_init_586 rfl ?_
  refine g_rputF hC h297 fl_X12_258 rfl rfl (by decide) dX12_init_587 (fun F298 h299 => ?_)
  clear h297
  refine g_aload_n hC dX12_init_590 rfl ?_
  refine g_iconst (v := 0) hC dX12_init_591 rfl ?_
  refine g_rputF hC h299 fl_X12_261 rfl rfl (by decide) dX12_init_592 (fun F300 h301 => ?_)
  clear h299
  refine g_aload_n hC dX12_init_595 rfl ?_
  refine g_iconst (v := 0) hC dX12_init_596 rfl ?_
  refine g_rputF hC h301 fl_X12_264 rfl rfl (by decide) dX12_init_597 (fun F302 h303 => ?_)
  clear h301
  refine g_aload_n hC dX12_init_600 rfl ?_
  refine g_iconst (v := 0) hC dX12_init_601 rfl ?_
  refine g_rputF hC h303 fl_X12_267 rfl rfl (by decide) dX12_init_602 (fun F304 h305 => ?_)
  clear h303
  refine g_aload_n hC dX12_init_605 rfl ?_
  refine g_sipush (v := 9000) hC dX12_init_606 rfl ?_
  refine g_newa (atype := .int) (N := 9000) (a0 := (9000, .inl (fun _ => 0))) hC 0 kw_288 rfl (by decide) (fun _ => rfl) (by decide) rfl (Nat.le_of_ble_eq_true rfl) (by first | exact Nat.le_of_ble_eq_true rfl | omega | (simp only [gR]; omega)) (by first | exact Nat.le_of_ble_eq_true rfl | omega | (simp only [gR]; omega)) dX12_init_609 (fun q306 e_q306 => ?_)
  refine g_vF (fun F307 hF307 => ?_)
  have h308 := h305.arr e_q306 g0_a hF307
  clear h305 hF307 e_q306
  refine g_rputF hC h308 fl_X12_270 rfl rfl (by decide) dX12_init_611 (fun F309 h310 => ?_)
  clear h308
  refine g_aload_n hC dX12_init_614 rfl ?_
  refine g_sipush (v := 9000) hC dX12_init_615 rfl ?_
  refine g_newa (atype := .int) (N := 9000) (a0 := (9000, .inl (fun _ => 0))) hC 0 kw_288 rfl (by decide) (fun _ => rfl) (by decide) rfl (Nat.le_of_ble_eq_true rfl) (by first | exact Nat.le_of_ble_eq_true rfl | omega | (simp only [gR]; omega)) (by first | exact Nat.le_of_ble_eq_true rfl | omega | (simp only [gR]; omega)) dX12_init_618 (fun q311 e_q311 => ?_)
  refine g_vF (fun F312 hF312 => ?_)
  have h313 := h310.arr e_q311 g0_a hF312
  clear h310 hF312 e_q311
  refine g_rputF hC h313 fl_X12_273 rfl rfl (by decide) dX12_init_620 (fun F314 h315 => ?_)
  clear h313
  refine g_aload_n hC dX12_init_623 rfl ?_
  refine g_iconst (v := 0) hC dX12_init_624 rfl ?_
  refine g_rputF hC h315 fl_X12_276 rfl rfl (by decide) dX12_init_625 (fun F316 h317 => ?_)
  clear h315
  refine g_aload_n hC dX12_init_628 rfl ?_
  refine g_ldcw hC dX12_init_629 kw_1953 ?_
  refine g_newa (atype := .int) (N := 620000) (a0 := (620000, .inl (fun _ => 0))) hC 0 kw_288 rfl (by decide) (fun _ => rfl) (by decide) rfl (Nat.le_of_ble_eq_true rfl) (by first | exact Nat.le_of_ble_eq_true rfl | omega | (simp only [gR]; omega)) (by first | exact Nat.le_of_ble_eq_true rfl | omega | (simp only [gR]; omega)) dX12_init_632 (fun q318 e_q318 => ?_)
  refine g_vF (fun F319 hF319 => ?_)
  have h320 := h317.arr e_q318 g0_a hF319
  clear h317 hF319 e_q318
  refine g_rputF hC h320 fl_X12_280 rfl rfl (by decide) dX12_init_634 (fun F321 h322 => ?_)
  clear h320
  refine g_aload_n hC dX12_init_637 rfl ?_
  refine g_ldcw hC dX12_init_638 kw_1953 ?_
  refine g_newa (atype := .int) (N := 620000) (a0 := (620000, .inl (fun _ => 0))) hC 0 kw_288 rfl (by decide) (fun _ => rfl) (by decide) rfl (Nat.le_of_ble_eq_true rfl) (by first | exact Nat.le_of_ble_eq_true rfl | omega | (simp only [gR]; omega)) (by first | exact Nat.le_of_ble_eq_true rfl | omega | (simp only [gR]; omega)) dX12_init_641 (fun q323 e_q323 => ?_)
  refine g_vF (fun F324 hF324 => ?_)
  have h325 := h322.arr e_q323 g0_a hF324
  clear h322 hF324 e_q323
  refine g_rputF hC h325 fl_X12_283 rfl rfl (by decide) dX12_init_643 (fun F326 h327 => ?_)
  clear h325
  refine g_aload_n hC dX12_init_646 rfl ?_
  refine g_ldcw hC dX12_init_647 kw_1953 ?_
  refine g_newa (atype := .int) (N := 620000) (a0 := (620000, .inl (fun _ => 0))) hC 0 kw_288 rfl (by decide) (fun _ => rfl) (by decide) rfl (Nat.le_of_ble_eq_true rfl) (by first | exact Nat.le_of_ble_eq_true rfl | omega | (simp only [gR]; omega)) (by first | exact Nat.le_of_ble_eq_true rfl | omega | (simp only [gR]; omega)) dX12_init_650 (fun q328 e_q328 => ?_)
  refine g_vF (fun F329 hF329 => ?_)
  have h330 := h327.arr e_q328 g0_a hF329
  clear h327 hF329 e_q328
  refine g_rputF hC h330 fl_X12_286 rfl rfl (by decide) dX12_init_652 (fun F331 h332 => ?_)
  clear h330
  refine g_aload_n hC dX12_init_655 rfl ?_
  refine g_iconst (v := 0) hC dX12_init_656 rfl ?_
  refine g_rputF hC h332 fl_X12_289 rfl rfl (by decide) dX12_init_657 (fun F333 h334 => ?_)
  clear h332
  refine g_aload_n hC dX12_init_660 rfl ?_
  refine g_ldcw hC dX12_init_661 kw_1954 ?_
  refine g_newa (atype := .int) (N := 300000) (a0 := (300000, .inl (fun _ => 0))) hC 0 kw_288 rfl (by decide) (fun _ => rfl) (by decide) rfl (Nat.le_of_ble_eq_true rfl) (by first | exact Nat.le_of_ble_eq_true rfl | omega | (simp only [gR]; omega)) (by first | exact Nat.le_of_ble_eq_true rfl | omega | (simp only [gR]; omega)) dX12_init_664 (fun q335 e_q335 => ?_)
  refine g_vF (fun F336 hF336 => ?_)
  have h337 := h334.arr e_q335 g0_a hF336
  clear h334 hF336 e_q335
  refine g_rputF hC h337 fl_X12_293 rfl rfl (by decide) dX12_init_666 (fun F338 h339 => ?_)
  clear h337
  refine g_aload_n hC dX12_init_669 rfl ?_
  refine g_sipush (v := 600) hC dX12_init_670 rfl ?_
  refine g_newa (atype := .int) (N := 600) (a0 := (600, .inl (fun _ => 0))) hC 0 kw_288 rfl (by decide) (fun _ => rfl) (by decide) rfl (Nat.le_of_ble_eq_true rfl) (by first | exact Nat.le_of_ble_eq_true rfl | omega | (simp only [gR]; omega)) (by first | exact Nat.le_of_ble_eq_true rfl | omega | (simp only [gR]; omega)) dX12_init_673 (fun q340 e_q340 => ?_)
  refine g_vF (fun F341 hF341 => ?_)
  have h342 := h339.arr e_q340 g0_a hF341
  clear h339 hF341 e_q340
  refine g_rputF hC h342 fl_X12_296 rfl rfl (by decide) dX12_init_675 (fun F343 h344 => ?_)
  clear h342
  refine g_aload_n hC dX12_init_678 rfl ?_
  refine g_sipush (v := 600) hC dX12_init_679 rfl ?_
  refine g_newa (atype := .int) (N := 600) (a0 := (600, .inl (fun _ => 0))) hC 0 kw_288 rfl (by decide) (fun _ => rfl) (by decide) rfl (Nat.le_of_ble_eq_true rfl) (by first | exact Nat.le_of_ble_eq_true rfl | omega | (simp only [gR]; omega)) (by first | exact Nat.le_of_ble_eq_true rfl | omega | (simp only [gR]; omega)) dX12_init_682 (fun q345 e_q345 => ?_)
  refine g_vF (fun F346 hF346 => ?_)
  have h347 := h344.arr e_q345 g0_a hF346
  clear h344 hF346 e_q345
  refine g_rputF hC h347 fl_X12_299 rfl rfl (by decide) dX12_init_684 (fun F348 h349 => ?_)
  clear h347
  refine g_aload_n hC dX12_init_687 rfl ?_
  refine g_iconst (v := 0) hC dX12_init_688 rfl ?_
  refine g_rputF hC h349 fl_X12_302 rfl rfl (by decide) dX12_init_689 (fun F350 h351 => ?_)
  clear h349
  refine g_aload_n hC dX12_init_692 rfl ?_
  refine g_iconst (v := 0) hC dX12_init_693 rfl ?_
  refine g_rputF hC h351 fl_X12_305 rfl rfl (by decide) dX12_init_694 (fun F352 h353 => ?_)
  clear h351
  refine g_aload_n hC dX12_init_697 rfl ?_
  refine g_iconst (v := 0) hC dX12_init_698 rfl ?_
  refine g_rputF hC h353 fl_X12_308 rfl rfl (by decide) dX12_init_699 (fun F354 h355 => ?_)
  clear h353
  refine g_aload_n hC dX12_init_702 rfl ?_
  refine g_ldcw hC dX12_init_703 kw_1955 ?_
  refine g_newa (atype := .int) (N := 65536) (a0 := (65536, .inl (fun _ => 0))) hC 0 kw_288 rfl (by decide) (fun _ => rfl) (by decide) rfl (Nat.le_of_ble_eq_true rfl) (by first | exact Nat.le_of_ble_eq_true rfl | omega | (simp only [gR]; omega)) (by first | exact Nat.le_of_ble_eq_true rfl | omega | (simp only [gR]; omega)) dX12_init_706 (fun q356 e_q356 => ?_)
  refine g_vF (fun F357 hF357 => ?_)
  have h358 := h355.arr e_q356 g0_a hF357
  clear h355 hF357 e_q356
  refine g_rputF hC h358 fl_X12_312 rfl rfl (by decide) dX12_init_708 (fun F359 h360 => ?_)
  clear h358
  refine g_aload_n hC dX12_init_711 rfl ?_
  refine g_sipush (v := 4096) hC dX12_init_712 rfl ?_
  refine g_rputF hC h360 fl_X12_315 rfl rfl (by decide) dX12_init_715 (fun F361 h362 => ?_)
  clear h360
  refine g_aload_n hC dX12_init_718 rfl ?_
  refine g_sipush (v := 4096) hC dX12_init_719 rfl ?_
  refine g_rputF hC h362 fl_X12_318 rfl rfl (by decide) dX12_init_722 (fun F363 h364 => ?_)
  clear h362
  refine g_aload_n hC dX12_init_725 rfl ?_
  refine g_iconst (v := 0) hC dX12_init_726 rfl ?_
  refine g_rputF hC h364 fl_X12_321 rfl rfl (by decide) dX12_init_727 (fun F365 h366 => ?_)
  clear h364
  refine g_aload_n hC dX12_init_730 rfl ?_
  refine g_iconst (v := 0) hC dX12_init_731 rfl ?_
  refine g_rputF hC h366 fl_X12_324 rfl rfl (by decide) dX12_init_732 (fun F367 h368 => ?_)
  clear h366
  refine g_aload_n hC dX12_init_735 rfl ?_
  refine g_iconst (v := 0) hC dX12_init_736 rfl ?_
  refine g_rputF hC h368 fl_X12_327 rfl rfl (by decide) dX12_init_737 (fun F369 h370 => ?_)
  clear h368
  refine g_aload_n hC dX12_init_740 rfl ?_
  refine g_iconst (v := 0) hC dX12_init_741 rfl ?_
  refine g_rputF hC h370 fl_X12_330 rfl rfl (by decide) dX12_init_742 (fun F371 h372 => ?_)
  clear h370
  refine g_aload_n hC dX12_init_745 rfl ?_
  refine g_iconst (v := 0) hC dX12_init_746 rfl ?_
  refine g_rputF hC h372 fl_X12_333 rfl rfl (by decide) dX12_init_747 (fun F373 h374 => ?_)
  clear h372
  refine g_aload_n hC dX12_init_750 rfl ?_
  refine g_iconst (v := 0) hC dX12_init_751 rfl ?_
  refine g_rputF hC h374 fl_X12_336 rfl rfl (by decide) dX12_init_752 (fun F375 h376 => ?_)
  clear h374
  refine g_aload_n hC dX12_init_755 rfl ?_
  refine g_bipush (v := 100) hC dX12_init_756 rfl ?_
  refine g_newa (atype := .int) (N := 100) (a0 := (100, .inl (fun _ => 0))) hC 0 kw_288 rfl (by decide) (fun _ => rfl) (by decide) rfl (Nat.le_of_ble_eq_true rfl) (by first | exact Nat.le_of_ble_eq_true rfl | omega | (simp only [gR]; omega)) (by first | exact Nat.le_of_ble_eq_true rfl | omega | (simp only [gR]; omega)) dX12_init_758 (fun q377 e_q377 => ?_)
  refine g_vF (fun F378 hF378 => ?_)
  have h379 := h376.arr e_q377 g0_a hF378
  clear h376 hF378 e_q377
  refine g_rputF hC h379 fl_X12_339 rfl rfl (by decide) dX12_init_760 (fun F380 h381 => ?_)
  clear h379
  refine g_aload_n hC dX12_init_763 rfl ?_
  refine g_bipush (v := 100) hC dX12_init_764 rfl ?_
  refine g_newa (atype := .int) (N := 100) (a0 := (100, .inl (fun _ => 0))) hC 0 kw_288 rfl (by decide) (fun _ => rfl) (by decide) rfl (Nat.le_of_ble_eq_true rfl) (by first | exact Nat.le_of_ble_eq_true rfl | omega | (simp only [gR]; omega)) (by first | exact Nat.le_of_ble_eq_true rfl | omega | (simp only [gR]; omega)) dX12_init_766 (fun q382 e_q382 => ?_)
  refine g_vF (fun F383 hF383 => ?_)
  have h384 := h381.arr e_q382 g0_a hF383
  clear h381 hF383 e_q382
  refine g_rputF hC h384 fl_X12_342 rfl rfl (by decide) dX12_init_768 (fun F385 h386 => ?_)
  clear h384
  refine g_aload_n hC dX12_init_771 rfl ?_
  refine g_sipush (v := 24000) hC dX12_init_772 rfl ?_
  refine g_newa (atype := .byte) (N := 24000) (a0 := (24000, .inl (fun _ => 0))) hC 1 kw_506 rfl (by decide) (fun _ => rfl) (by decide) rfl (Nat.le_of_ble_eq_true rfl) (by first | exact Nat.le_of_ble_eq_true rfl | omega | (simp only [gR]; omega)) (by first | exact Nat.le_of_ble_eq_true rfl | omega | (simp only [gR]; omega)) dX12_init_775 (fun q387 e_q387 => ?_)
  refine g_vF (fun F388 hF388 => ?_)
  have h389 := h386.arr e_q387 g0_a hF388
  clear h386 hF388 e_q387
  refine g_rputF hC h389 fl_X12_345 rfl rfl (by decide) dX12_init_777 (fun F390 h391 => ?_)
  clear h389
  refine g_aload_n hC dX12_init_780 rfl ?_
  refine g_sipush (v := 24000) hC dX12_init_781 rfl ?_
  refine g_newa (atype := .int) (N := 24000) (a0 := (24000, .inl (fun _ => 0))) hC 0 kw_288 rfl (by decide) (fun _ => rfl) (by decide) rfl (Nat.le_of_ble_eq_true rfl) (by first | exact Nat.le_of_ble_eq_true rfl | omega | (simp only [gR]; omega)) (by first | exact Nat.le_of_ble_eq_true rfl | omega | (simp only [gR]; omega)) dX12_init_784 (fun q392 e_q392 => ?_)
  refine g_vF (fun F393 hF393 => ?_)
  have h394 := h391.arr e_q392 g0_a hF393
  clear h391 hF393 e_q392
  refine g_rputF hC h394 fl_X12_348 rfl rfl (by decide) dX12_init_786 (fun F395 h396 => ?_)
  clear h394
  refine g_aload_n hC dX12_init_789 rfl ?_
  refine g_sipush (v := 24000) hC dX12_init_790 rfl ?_
  refine g_newa (atype := .int) (N := 24000) (a0 := (24000, .inl (fun _ => 0))) hC 0 kw_288 rfl (by decide) (fun _ => rfl) (by decide) rfl (Nat.le_of_ble_eq_true rfl) (by first | exact Nat.le_of_ble_eq_true rfl | omega | (simp only [gR]; omega)) (by first | exact Nat.le_of_ble_eq_true rfl | omega | (simp only [gR]; omega)) dX12_init_793 (fun q397 e_q397 => ?_)
  refine g_vF (fun F398 hF398 => ?_)
  have h399 := h396.arr e_q397 g0_a hF398
  clear h396 hF398 e_q397
  refine g_rputF hC h399 fl_X12_351 rfl rfl (by decide) dX12_init_795 (fun F400 h401 => ?_)
  clear h399
  refine g_aload_n hC dX12_init_798 rfl ?_
  refine g_iconst (v := 4) hC dX12_init_799 rfl ?_
  refine g_newa (atype := .int) (N := 4) (a0 := (4, .inl (fun _ => 0))) hC 0 kw_288 rfl (by decide) (fun _ => rfl) (by decide) rfl (Nat.le_of_ble_eq_true rfl) (by first | exact Nat.le_of_ble_eq_true rfl | omega | (simp only [gR]; omega)) (by first | exact Nat.le_of_ble_eq_true rfl | omega | (simp only [gR]; omega)) dX12_init_800 (fun q402 e_q402 => ?_)
  refine g_vF (fun F403 hF403 => ?_)
  have h404 := h401.arr e_q402 g0_a hF403
  clear h401 hF403 e_q402
  refine g_rputF hC h404 fl_X12_354 rfl rfl (by decide) dX12_init_802 (fun F405 h406 => ?_)
  clear h404
  refine g_aload_n hC dX12_init_805 rfl ?_
  refine g_iconst (v := 4) hC dX12_init_806 rfl ?_
  refine g_newa (atype := .int) (N := 4) (a0 := (4, .inl (fun _ => 0))) hC 0 kw_288 rfl (by decide) (fun _ => rfl) (by decide) rfl (Nat.le_of_ble_eq_true rfl) (by first | exact Nat.le_of_ble_eq_true rfl | omega | (simp only [gR]; omega)) (by first | exact Nat.le_of_ble_eq_true rfl | omega | (simp only [gR]; omega)) dX12_init_807 (fun q407 e_q407 => ?_)
  refine g_vF (fun F408 hF408 => ?_)
  have h409 := h406.arr e_q407 g0_a hF408
  clear h406 hF408 e_q407
  refine g_rputF hC h409 fl_X12_357 rfl rfl (by decide) dX12_init_809 (fun F410 h411 => ?_)
  clear h409
  refine g_aload_n hC dX12_init_812 rfl ?_
  refine g_iconst (v := 0) hC dX12_init_813 rfl ?_
  refine g_rputF hC h411 fl_X12_360 rfl rfl (by decide) dX12_init_814 (fun F412 h413 => ?_)
  clear h411
  refine g_aload_n hC dX12_init_817 rfl ?_
  refine g_sipush (v := 8192) hC dX12_init_818 rfl ?_
  refine g_newa (atype := .byte) (N := 8192) (a0 := (8192, .inl (fun _ => 0))) hC 1 kw_506 rfl (by decide) (fun _ => rfl) (by decide) rfl (Nat.le_of_ble_eq_true rfl) (by first | exact Nat.le_of_ble_eq_true rfl | omega | (simp only [gR]; omega)) (by first | exact Nat.le_of_ble_eq_true rfl | omega | (simp only [gR]; omega)) dX12_init_821 (fun q414 e_q414 => ?_)
  refine g_vF (fun F415 hF415 => ?_)
  have h416 := h413.arr e_q414 g0_a hF415
  clear h413 hF415 e_q414
  refine g_rputF hC h416 fl_X12_363 rfl rfl (by decide) dX12_init_823 (fun F417 h418 => ?_)
  clear h416
  refine g_aload_n hC dX12_init_826 rfl ?_
  refine g_iconst (v := 2) hC dX12_init_827 rfl ?_
  refine g_newa (atype := .int) (N := 2) (a0 := (2, .inl (fun _ => 0))) hC 0 kw_288 rfl (by decide) (fun _ => rfl) (by decide) rfl (Nat.le_of_ble_eq_true rfl) (by first | exact Nat.le_of_ble_eq_true rfl | omega | (simp only [gR]; omega)) (by first | exact Nat.le_of_ble_eq_true rfl | omega | (simp only [gR]; omega)) dX12_init_828 (fun q419 e_q419 => ?_)
  refine g_vF (fun F420 hF420 => ?_)
  have h421 := h418.arr e_q419 g0_a hF420
  clear h418 hF420 e_q419
  refine g_rputF hC h421 fl_X12_366 rfl rfl (by decide) dX12_init_830 (fun F422 h423 => ?_)
  clear h421
  refine g_aload_n hC dX12_init_833 rfl ?_
  refine g_iconst (v := 0) hC dX12_init_834 rfl ?_
  refine g_rputF hC h423 fl_X12_369 rfl rfl (by decide) dX12_init_835 (fun F424 h425 => ?_)
  clear h423
  refine g_aload_n hC dX12_init_838 rfl ?_
  refine g_bipush (v := 12) hC dX12_init_839 rfl ?_
  refine g_newa (atype := .byte) (N := 12) (a0 := (12, .inl (fun _ => 0))) hC 1 kw_506 rfl (by decide) (fun _ => rfl) (by decide) rfl (Nat.le_of_ble_eq_true rfl) (by first | exact Nat.le_of_ble_eq_true rfl | omega | (simp only [gR]; omega)) (by first | exact Nat.le_of_ble_eq_true rfl | omega | (simp only [gR]; omega)) dX12_init_841 (fun q426 e_q426 => ?_)
  refine g_vF (fun F427 hF427 => ?_)
  have h428 := h425.arr e_q426 g0_a hF427
  clear h425 hF427 e_q426
  refine g_rputF hC h428 fl_X12_372 rfl rfl (by decide) dX12_init_843 (fun F429 h430 => ?_)
  clear h428
  have hL : gRk F _ t _ ([(q426, .inl (zck d 118, zn 118, .inl (fun _ => zI 0))), (q419, .inl (zck d 116, zn 116, .inl (fun _ => zI 0))), (q414, .inl (zck d 115, zn 115, .inl (fun _ => zI 0))), (q407, .inl (zck d 113, zn 113, .inl (fun _ => zI 0))), (q402, .inl (zck d 112, zn 112, .inl (fun _ => zI 0))), (q397, .inl (zck d 111, zn 111, .inl (fun _ => zI 0))), (q392, .inl (zck d 110, zn 110, .inl (fun _ => zI 0))), (q387, .inl (zck d 109, zn 109, .inl (fun _ => zI 0))), (q382, .inl (zck d 108, zn 108, .inl (fun _ => zI 0))), (q377, .inl (zck d 107, zn 107, .inl (fun _ => zI 0))), (q356, .inl (zck d 98, zn 98, .inl (fun _ => zI 0))), (q345, .inl (zck d 94, zn 94, .inl (fun _ => zI 0))), (q340, .inl (zck d 93, zn 93, .inl (fun _ => zI 0))), (q335, .inl (zck d 92, zn 92, .inl (fun _ => zI 0))), (q328, .inl (zck d 90, zn 90, .inl (fun _ => zI 0))), (q323, .inl (zck d 89, zn 89, .inl (fun _ => zI 0))), (q318, .inl (zck d 88, zn 88, .inl (fun _ => zI 0))), (q311, .inl (zck d 86, zn 86, .inl (fun _ => zI 0))), (q306, .inl (zck d 85, zn 85, .inl (fun _ => zI 0))), (q277, .inl (zck d 72, zn 72, .inl (fun _ => zI 0))), (q272, .inl (zck d 71, zn 71, .inl (fun _ => zI 0))), (q267, .inl (zck d 70, zn 70, .inl (fun _ => zI 0))), (q260, .inl (zck d 68, zn 68, .inl (fun _ => zI 0))), (q253, .inl (zck d 66, zn 66, .inl (fun _ => zI 0))), (q248, .inl (zck d 65, zn 65, .inl (fun _ => zI 0))), (q243, .inl (zck d 64, zn 64, .inl (fun _ => zI 0))), (q236, .inl (zck d 62, zn 62, .inl (fun _ => zI 0))), (q231, .inl (zck d 61, zn 61, .inl (fun _ => zI 0))), (q226, .inl (zck d 60, zn 60, .inl (fun _ => zI 0))), (q217, .inl (zck d 57, zn 57, .inl (fun _ => zI 0))), (q212, .inl (zck d 56, zn 56, .inl (fun _ => zI 0))), (q205, .inl (zck d 54, zn 54, .inl (fun _ => zI 0))), (q200, .inl (zck d 53, zn 53, .inl (fun _ => zI 0))), (q195, .inl (zck d 52, zn 52, .inl (fun _ => zI 0))), (q190, .inl (zck d 51, zn 51, .inl (fun _ => zI 0))), (q185, .inl (zck d 50, zn 50, .inl (fun _ => zI 0))), (q176, .inl (zck d 47, zn 47, .inl (fun _ => zI 0))), (q171, .inl (zck d 46, zn 46, .inl (fun _ => zI 0))), (q160, .inl (zck d 42, zn 42, .inl (fun _ => zI 0))), (q155, .inl (zck d 41, zn 41, .inl (fun _ => zI 0))), (q150, .inl (zck d 40, zn 40, .inl (fun _ => zI 0))), (q145, .inl (zck d 39, zn 39, .inl (fun _ => zI 0))), (q136, .inl (zck d 36, zn 36, .inl (fun _ => zI 0))), (q131, .inl (zck d 35, zn 35, .inl (fun _ => zI 0))), (q126, .inl (zck d 34, zn 34, .inl (fun _ => zI 0))), (q121, .inl (zck d 33, zn 33, .inl (fun _ => zI 0))), (q116, .inl (zck d 32, zn 32, .inl (fun _ => zI 0))), (q111, .inl (zck d 31, zn 31, .inl (fun _ => zI 0))), (q106, .inl (zck d 30, zn 30, .inl (fun _ => zI 0))), (q101, .inl (zck d 29, zn 29, .inl (fun _ => zI 0))), (q96, .inl (zck d 28, zn 28, .inl (fun _ => zI 0))), (q91, .inl (zck d 27, zn 27, .inl (fun _ => zI 0))), (q86, .inl (zck d 26, zn 26, .inl (fun _ => zI 0))), (q81, .inl (zck d 25, zn 25, .inl (fun _ => zI 0))), (q62, .inl (zck d 17, zn 17, .inl (fun _ => zI 0))), (q57, .inl (zck d 16, zn 16, .inl (fun _ => zI 0))), (q50, .inl (zck d 14, zn 14, .inl (fun _ => zI 0))), (q41, .inl (zck d 11, zn 11, .inl (fun _ => zI 0))), (q36, .inl (zck d 10, zn 10, .inl (fun _ => zI 0))), (q31, .inl (zck d 9, zn 9, .inl (fun _ => zI 0))), (q24, .inl (zck d 7, zn 7, .inl (fun _ => zI 0))), (q19, .inl (zck d 6, zn 6, .inl (fun _ => zI 0))), (q10, .inl (zck d 3, zn 3, .inl (fun _ => zI 0))), (q3, .inl (zck d 1, zn 1, .inl (fun _ => zI 0)))] : List (Nat × va_E)) := h430
  have hP : ∀ j, j < 119 → zb j = true → ([(q426, .inl (zck d 118, zn 118, .inl (fun _ => zI 0))), (q419, .inl (zck d 116, zn 116, .inl (fun _ => zI 0))), (q414, .inl (zck d 115, zn 115, .inl (fun _ => zI 0))), (q407, .inl (zck d 113, zn 113, .inl (fun _ => zI 0))), (q402, .inl (zck d 112, zn 112, .inl (fun _ => zI 0))), (q397, .inl (zck d 111, zn 111, .inl (fun _ => zI 0))), (q392, .inl (zck d 110, zn 110, .inl (fun _ => zI 0))), (q387, .inl (zck d 109, zn 109, .inl (fun _ => zI 0))), (q382, .inl (zck d 108, zn 108, .inl (fun _ => zI 0))), (q377, .inl (zck d 107, zn 107, .inl (fun _ => zI 0))), (q356, .inl (zck d 98, zn 98, .inl (fun _ => zI 0))), (q345, .inl (zck d 94, zn 94, .inl (fun _ => zI 0))), (q340, .inl (zck d 93, zn 93, .inl (fun _ => zI 0))), (q335, .inl (zck d 92, zn 92, .inl (fun _ => zI 0))), (q328, .inl (zck d 90, zn 90, .inl (fun _ => zI 0))), (q323, .inl (zck d 89, zn 89, .inl (fun _ => zI 0))), (q318, .inl (zck d 88, zn 88, .inl (fun _ => zI 0))), (q311, .inl (zck d 86, zn 86, .inl (fun _ => zI 0))), (q306, .inl (zck d 85, zn 85, .inl (fun _ => zI 0))), (q277, .inl (zck d 72, zn 72, .inl (fun _ => zI 0))), (q272, .inl (zck d 71, zn 71, .inl (fun _ => zI 0))), (q267, .inl (zck d 70, zn 70, .inl (fun _ => zI 0))), (q260, .inl (zck d 68, zn 68, .inl (fun _ => zI 0))), (q253, .inl (zck d 66, zn 66, .inl (fun _ => zI 0))), (q248, .inl (zck d 65, zn 65, .inl (fun _ => zI 0))), (q243, .inl (zck d 64, zn 64, .inl (fun _ => zI 0))), (q236, .inl (zck d 62, zn 62, .inl (fun _ => zI 0))), (q231, .inl (zck d 61, zn 61, .inl (fun _ => zI 0))), (q226, .inl (zck d 60, zn 60, .inl (fun _ => zI 0))), (q217, .inl (zck d 57, zn 57, .inl (fun _ => zI 0))), (q212, .inl (zck d 56, zn 56, .inl (fun _ => zI 0))), (q205, .inl (zck d 54, zn 54, .inl (fun _ => zI 0))), (q200, .inl (zck d 53, zn 53, .inl (fun _ => zI 0))), (q195, .inl (zck d 52, zn 52, .inl (fun _ => zI 0))), (q190, .inl (zck d 51, zn 51, .inl (fun _ => zI 0))), (q185, .inl (zck d 50, zn 50, .inl (fun _ => zI 0))), (q176, .inl (zck d 47, zn 47, .inl (fun _ => zI 0))), (q171, .inl (zck d 46, zn 46, .inl (fun _ => zI 0))), (q160, .inl (zck d 42, zn 42, .inl (fun _ => zI 0))), (q155, .inl (zck d 41, zn 41, .inl (fun _ => zI 0))), (q150, .inl (zck d 40, zn 40, .inl (fun _ => zI 0))), (q145, .inl (zck d 39, zn 39, .inl (fun _ => zI 0))), (q136, .inl (zck d 36, zn 36, .inl (fun _ => zI 0))), (q131, .inl (zck d 35, zn 35, .inl (fun _ => zI 0))), (q126, .inl (zck d 34, zn 34, .inl (fun _ => zI 0))), (q121, .inl (zck d 33, zn 33, .inl (fun _ => zI 0))), (q116, .inl (zck d 32, zn 32, .inl (fun _ => zI 0))), (q111, .inl (zck d 31, zn 31, .inl (fun _ => zI 0))), (q106, .inl (zck d 30, zn 30, .inl (fun _ => zI 0))), (q101, .inl (zck d 29, zn 29, .inl (fun _ => zI 0))), (q96, .inl (zck d 28, zn 28, .inl (fun _ => zI 0))), (q91, .inl (zck d 27, zn 27, .inl (fun _ => zI 0))), (q86, .inl (zck d 26, zn 26, .inl (fun _ => zI 0))), (q81, .inl (zck d 25, zn 25, .inl (fun _ => zI 0))), (q62, .inl (zck d 17, zn 17, .inl (fun _ => zI 0))), (q57, .inl (zck d 16, zn 16, .inl (fun _ => zI 0))), (q50, .inl (zck d 14, zn 14, .inl (fun _ => zI 0))), (q41, .inl (zck d 11, zn 11, .inl (fun _ => zI 0))), (q36, .inl (zck d 10, zn 10, .inl (fun _ => zI 0))), (q31, .inl (zck d 9, zn 9, .inl (fun _ => zI 0))), (q24, .inl (zck d 7, zn 7, .inl (fun _ => zI 0))), (q19, .inl (zck d 6, zn 6, .inl (fun _ => zI 0))), (q10, .inl (zck d 3, zn 3, .inl (fun _ => zI 0))), (q3, .inl (zck d 1, zn 1, .inl (fun _ => zI 0)))] : List (Nat × va_E))[pPos j]? = some ((fun j => [0, q3, 0, q10, 0, 0, q19, q24, 0, q31, q36, q41, 0, 0, q50, 0, q57, q62, 0, 0, 0, 0, 0, 0, 0, q81, q86, q91, q96, q101, q106, q111, q116, q121, q126, q131, q136, 0, 0, q145, q150, q155, q160, 0, 0, 0, q171, q176, 0, 0, q185, q190, q195, q200, q205, 0, q212, q217, 0, 0, q226, q231, q236, 0, q243, q248, q253, 0, q260, 0, q267, q272, q277, 0, 0, 0, 0, 0, 0, 0, 0, 0, 0, 0, 0, q306, q311, 0, q318, q323, q328, 0, q335, q340, q345, 0, 0, 0, q356, 0, 0, 0, 0, 0, 0, 0, 0, q377, q382, q387, q392, q397, q402, q407, 0, q414, q419, 0, q426].getD j 0) j, .inl (zck d j, zn j, .inl (fun _ => zI 0))) := fun j hj hb => by
    match j, hj, hb with
    | 0, _, hb => exact absurd hb (by decide)
    | 1, _, _ => exact rfl
    | 2, _, hb => exact absurd hb (by decide)
    | 3, _, _ => exact rfl
    | 4, _, hb => exact absurd hb (by decide)
    | 5, _, hb => exact absurd hb (by decide)
    | 6, _, _ => exact rfl
    | 7, _, _ => exact rfl
    | 8, _, hb => exact absurd hb (by decide)
    | 9, _, _ => exact rfl
    | 10, _, _ => exact rfl
    | 11, _, _ => exact rfl
    | 12, _, hb => exact absurd hb (by decide)
    | 13, _, hb => exact absurd hb (by decide)
    | 14, _, _ => exact rfl
    | 15, _, hb => exact absurd hb (by decide)
    | 16, _, _ => exact rfl
    | 17, _, _ => exact rfl
    | 18, _, hb => exact absurd hb (by decide)
    | 19, _, hb => exact absurd hb (by decide)
    | 20, _, hb => exact absurd hb (by decide)
    | 21, _, hb => exact absurd hb (by decide)
    | 22, _, hb => exact absurd hb (by decide)
    | 23, _, hb => exact absurd hb (by decide)
    | 24, _, hb => exact absurd hb (by decide)
    | 25, _, _ => exact rfl
    | 26, _, _ => exact rfl
    | 27, _, _ => exact rfl
    | 28, _, _ => exact rfl
    | 29, _, _ => exact rfl
    | 30, _, _ => exact rfl
    | 31, _, _ => exact rfl
    | 32, _, _ => exact rfl
    | 33, _, _ => exact rfl
    | 34, _, _ => exact rfl
    | 35, _, _ => exact rfl
    | 36, _, _ => exact rfl
    | 37, _, hb => exact absurd hb (by decide)
    | 38, _, hb => exact absurd hb (by decide)
    | 39, _, _ => exact rfl
    | 40, _, _ => exact rfl
    | 41, _, _ => exact rfl
    | 42, _, _ => exact rfl
    | 43, _, hb => exact absurd hb (by decide)
    | 44, _, hb => exact absurd hb (by decide)
    | 45, _, hb => exact absurd hb (by decide)
    | 46, _, _ => exact rfl
    | 47, _, _ => exact rfl
    | 48, _, hb => exact absurd hb (by decide)
    | 49, _, hb => exact absurd hb (by decide)
    | 50, _, _ => exact rfl
    | 51, _, _ => exact rfl
    | 52, _, _ => exact rfl
    | 53, _, _ => exact rfl
    | 54, _, _ => exact rfl
    | 55, _, hb => exact absurd hb (by decide)
    | 56, _, _ => exact rfl
    | 57, _, _ => exact rfl
    | 58, _, hb => exact absurd hb (by decide)
    | 59, _, hb => exact absurd hb (by decide)
    | 60, _, _ => exact rfl
    | 61, _, _ => exact rfl
    | 62, _, _ => exact rfl
    | 63, _, hb => exact absurd hb (by decide)
    | 64, _, _ => exact rfl
    | 65, _, _ => exact rfl
    | 66, _, _ => exact rfl
    | 67, _, hb => exact absurd hb (by decide)
    | 68, _, _ => exact rfl
    | 69, _, hb => exact absurd hb (by decide)
    | 70, _, _ => exact rfl
    | 71, _, _ => exact rfl
    | 72, _, _ => exact rfl
    | 73, _, hb => exact absurd hb (by decide)
    | 74, _, hb => exact absurd hb (by decide)
    | 75, _, hb => exact absurd hb (by decide)
    | 76, _, hb => exact absurd hb (by decide)
    | 77, _, hb => exact absurd hb (by decide)
    | 78, _, hb => exact absurd hb (by decide)
    | 79, _, hb => exact absurd hb (by decide)
    | 80, _, hb => exact absurd hb (by decide)
    | 81, _, hb => exact absurd hb (by decide)
    | 82, _, hb => exact absurd hb (by decide)
    | 83, _, hb => exact absurd hb (by decide)
    | 84, _, hb => exact absurd hb (by decide)
    | 85, _, _ => exact rfl
    | 86, _, _ => exact rfl
    | 87, _, hb => exact absurd hb (by decide)
    | 88, _, _ => exact rfl
    | 89, _, _ => exact rfl
    | 90, _, _ => exact rfl
    | 91, _, hb => exact absurd hb (by decide)
    | 92, _, _ => exact rfl
    | 93, _, _ => exact rfl
    | 94, _, _ => exact rfl
    | 95, _, hb => exact absurd hb (by decide)
    | 96, _, hb => exact absurd hb (by decide)
    | 97, _, hb => exact absurd hb (by decide)
    | 98, _, _ => exact rfl
    | 99, _, hb => exact absurd hb (by decide)
    | 100, _, hb => exact absurd hb (by decide)
    | 101, _, hb => exact absurd hb (by decide)
    | 102, _, hb => exact absurd hb (by decide)
    | 103, _, hb => exact absurd hb (by decide)
    | 104, _, hb => exact absurd hb (by decide)
    | 105, _, hb => exact absurd hb (by decide)
    | 106, _, hb => exact absurd hb (by decide)
    | 107, _, _ => exact rfl
    | 108, _, _ => exact rfl
    | 109, _, _ => exact rfl
    | 110, _, _ => exact rfl
    | 111, _, _ => exact rfl
    | 112, _, _ => exact rfl
    | 113, _, _ => exact rfl
    | 114, _, hb => exact absurd hb (by decide)
    | 115, _, _ => exact rfl
    | 116, _, _ => exact rfl
    | 117, _, hb => exact absurd hb (by decide)
    | 118, _, _ => exact rfl
    | n + 119, hn, _ => exact absurd hn (by omega)
  refine g_vret hC ⟨(fun j => [0, q3, 0, q10, 0, 0, q19, q24, 0, q31, q36, q41, 0, 0, q50, 0, q57, q62, 0, 0, 0, 0, 0, 0, 0, q81, q86, q91, q96, q101, q106, q111, q116, q121, q126, q131, q136, 0, 0, q145, q150, q155, q160, 0, 0, 0, q171, q176, 0, 0, q185, q190, q195, q200, q205, 0, q212, q217, 0, 0, q226, q231, q236, 0, q243, q248, q253, 0, q260, 0, q267, q272, q277, 0, 0, 0, 0, 0, 0, 0, 0, 0, 0, 0, 0, q306, q311, 0, q318, q323, q328, 0, q335, q340, q345, 0, 0, 0, q356, 0, 0, 0, 0, 0, 0, 0, 0, q377, q382, q387, q392, q397, q402, q407, 0, q414, q419, 0, q426].getD j 0), ⟨?_, fun j hj => (hL.2.2.2.1 _ (List.mem_of_getElem? (hP j (zb_l hj) hj))).1, fun i j hi hj e => ?_, fun j => pV0_R j, fun _ _ => (by decide : zR 0)⟩, hL.2.2.1, fun j hj => (hL.2.2.2.1 _ (List.mem_of_getElem? (hP j (zb_l hj) hj))).2.1⟩ (by first | exact Nat.le_of_ble_eq_true rfl | omega | (simp only [gR]; omega)) (by first | exact Nat.le_of_ble_eq_true rfl | omega | (simp only [gR]; omega)) dX12_init_846
  · refine hL.1.trans ?_
    rw [gvl_eq, gvl_eq]
    refine congrArg (fun l => (.inr (12, l) : va_E)) (List.map_congr_left fun j hj => ?_)
    have hj := List.mem_range.mp hj
    match j, hj with
    | 0, _ => exact rfl
    | 1, _ => exact rfl
    | 2, _ => exact rfl
    | 3, _ => exact rfl
    | 4, _ => exact rfl
    | 5, _ => exact rfl
    | 6, _ => exact rfl
    | 7, _ => exact rfl
    | 8, _ => exact rfl
    | 9, _ => exact rfl
    | 10, _ => exact rfl
    | 11, _ => exact rfl
    | 12, _ => exact rfl
    | 13, _ => exact rfl
    | 14, _ => exact rfl
    | 15, _ => exact rfl
    | 16, _ => exact rfl
    | 17, _ => exact rfl
    | 18, _ => exact rfl
    | 19, _ => exact rfl
    | 20, _ => exact rfl
    | 21, _ => exact rfl
    | 22, _ => exact rfl
    | 23, _ => exact rfl
    | 24, _ => exact rfl
    | 25, _ => exact rfl
    | 26, _ => exact rfl
    | 27, _ => exact rfl
    | 28, _ => exact rfl
    | 29, _ => exact rfl
    | 30, _ => exact rfl
    | 31, _ => exact rfl
    | 32, _ => exact rfl
    | 33, _ => exact rfl
    | 34, _ => exact rfl
    | 35, _ => exact rfl
    | 36, _ => exact rfl
    | 37, _ => exact rfl
    | 38, _ => exact rfl
    | 39, _ => exact rfl
    | 40, _ => exact rfl
    | 41, _ => exact rfl
    | 42, _ => exact rfl
    | 43, _ => exact rfl
    | 44, _ => exact rfl
    | 45, _ => exact rfl
    | 46, _ => exact rfl
    | 47, _ => exact rfl
    | 48, _ => exact rfl
    | 49, _ => exact rfl
    | 50, _ => exact rfl
    | 51, _ => exact rfl
    | 52, _ => exact rfl
    | 53, _ => exact rfl
    | 54, _ => exact rfl
    | 55, _ => exact rfl
    | 56, _ => exact rfl
    | 57, _ => exact rfl
    | 58, _ => exact rfl
    | 59, _ => exact rfl
    | 60, _ => exact rfl
    | 61, _ => exact rfl
    | 62, _ => exact rfl
    | 63, _ => exact rfl
    | 64, _ => exact rfl
    | 65, _ => exact rfl
    | 66, _ => exact rfl
    | 67, _ => exact rfl
    | 68, _ => exact rfl
    | 69, _ => exact rfl
    | 70, _ => exact rfl
    | 71, _ => exact rfl
    | 72, _ => exact rfl
    | 73, _ => exact rfl
    | 74, _ => exact rfl
    | 75, _ => exact rfl
    | 76, _ => exact rfl
    | 77, _ => exact rfl
    | 78, _ => exact rfl
    | 79, _ => exact rfl
    | 80, _ => exact rfl
    | 81, _ => exact rfl
    | 82, _ => exact rfl
    | 83, _ => exact rfl
    | 84, _ => exact rfl
    | 85, _ => exact rfl
    | 86, _ => exact rfl
    | 87, _ => exact rfl
    | 88, _ => exact rfl
    | 89, _ => exact rfl
    | 90, _ => exact rfl
    | 91, _ => exact rfl
    | 92, _ => exact rfl
    | 93, _ => exact rfl
    | 94, _ => exact rfl
    | 95, _ => exact rfl
    | 96, _ => exact rfl
    | 97, _ => exact rfl
    | 98, _ => exact rfl
    | 99, _ => exact rfl
    | 100, _ => exact rfl
    | 101, _ => exact rfl
    | 102, _ => exact rfl
    | 103, _ => exact rfl
    | 104, _ => exact rfl
    | 105, _ => exact rfl
    | 106, _ => exact rfl
    | 107, _ => exact rfl
    | 108, _ => exact rfl
    | 109, _ => exact rfl
    | 110, _ => exact rfl
    | 111, _ => exact rfl
    | 112, _ => exact rfl
    | 113, _ => exact rfl
    | 114, _ => exact rfl
    | 115, _ => exact rfl
    | 116, _ => exact rfl
    | 117, _ => exact rfl
    | 118, _ => exact rfl
    | n + 119, hn => exact absurd hn (by omega)
  · have a1 := hP i (zb_l hi) hi
    have a2 := hP j (zb_l hj) hj
    have e1 : pPos i = pPos j := pNdup (x := (fun j => [0, q3, 0, q10, 0, 0, q19, q24, 0, q31, q36, q41, 0, 0, q50, 0, q57, q62, 0, 0, 0, 0, 0, 0, 0, q81, q86, q91, q96, q101, q106, q111, q116, q121, q126, q131, q136, 0, 0, q145, q150, q155, q160, 0, 0, 0, q171, q176, 0, 0, q185, q190, q195, q200, q205, 0, q212, q217, 0, 0, q226, q231, q236, 0, q243, q248, q253, 0, q260, 0, q267, q272, q277, 0, 0, 0, 0, 0, 0, 0, 0, 0, 0, 0, 0, q306, q311, 0, q318, q323, q328, 0, q335, q340, q345, 0, 0, 0, q356, 0, 0, 0, 0, 0, 0, 0, 0, q377, q382, q387, q392, q397, q402, q407, 0, q414, q419, 0, q426].getD j 0) i) hL.2.2.2.2 (by rw [List.getElem?_map, a1]; rfl) (by rw [List.getElem?_map, a2]; exact congrArg some e.symm)
    rw [← pInv_e i (zb_l hi) hi, ← pInv_e j (zb_l hj) hj, e1]
