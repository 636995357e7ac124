-- pasted: PART A of the skeleton
-- ===== PART A: goes FIRST, ahead of the names: the tables' words, and 'selects' of the private methods out of them =====
/-- a private method of a class that the tables say can be made, by its rows of tables_1 -/
def lw_okq (q : MethodName × Nat) : Prop := (q.1.cls ≠ "java/lang/invoke/MethodHandle" ∧ q.1.cls ≠ "java/lang/invoke/VarHandle") ∧ Cond.instantiable q.1.cls q.2 ∈ tables_1 ∧ Cond.privateMethod q.1 ∈ tables_1 ∧ Cond.instanceMethod q.1 ∈ tables_1
theorem lw_p0 : lw_okq (⟨"WordTongue$Scanner", "know", "(Ljava/lang/String;)V"⟩, 11) := ⟨⟨by decide +kernel, by decide +kernel⟩, List.mem_of_getElem? (i := 127) (by decide +kernel), List.mem_of_getElem? (i := 137) (by decide +kernel), List.mem_of_getElem? (i := 138) (by decide +kernel)⟩
theorem lw_p1 : lw_okq (⟨"WordTongue$Scanner", "idOf", "(LWordTongue$Ints;II)I"⟩, 11) := ⟨⟨by decide +kernel, by decide +kernel⟩, List.mem_of_getElem? (i := 127) (by decide +kernel), List.mem_of_getElem? (i := 193) (by decide +kernel), List.mem_of_getElem? (i := 194) (by decide +kernel)⟩
theorem lw_p2 : lw_okq (⟨"WordTongue$Scanner", "isAlike", "(ILWordTongue$Ints;II)Z"⟩, 11) := ⟨⟨by decide +kernel, by decide +kernel⟩, List.mem_of_getElem? (i := 127) (by decide +kernel), List.mem_of_getElem? (i := 201) (by decide +kernel), List.mem_of_getElem? (i := 202) (by decide +kernel)⟩
theorem lw_p3 : lw_okq (⟨"WordTongue", "addBytes", "(I)V"⟩, 10) := ⟨⟨by decide +kernel, by decide +kernel⟩, List.mem_of_getElem? (i := 28) (by decide +kernel), List.mem_of_getElem? (i := 599) (by decide +kernel), List.mem_of_getElem? (i := 600) (by decide +kernel)⟩
theorem lw_p4 : lw_okq (⟨"WordTongue$Scanner", "pass", "()V"⟩, 11) := ⟨⟨by decide +kernel, by decide +kernel⟩, List.mem_of_getElem? (i := 127) (by decide +kernel), List.mem_of_getElem? (i := 628) (by decide +kernel), List.mem_of_getElem? (i := 629) (by decide +kernel)⟩
theorem lw_p5 : lw_okq (⟨"WordTongue$Scanner", "skipLine", "()V"⟩, 11) := ⟨⟨by decide +kernel, by decide +kernel⟩, List.mem_of_getElem? (i := 127) (by decide +kernel), List.mem_of_getElem? (i := 632) (by decide +kernel), List.mem_of_getElem? (i := 633) (by decide +kernel)⟩
theorem lw_p6 : lw_okq (⟨"WordTongue$Scanner", "put", "(III)V"⟩, 11) := ⟨⟨by decide +kernel, by decide +kernel⟩, List.mem_of_getElem? (i := 127) (by decide +kernel), List.mem_of_getElem? (i := 636) (by decide +kernel), List.mem_of_getElem? (i := 637) (by decide +kernel)⟩
theorem lw_p7 : lw_okq (⟨"WordTongue$Scanner", "token", "()V"⟩, 11) := ⟨⟨by decide +kernel, by decide +kernel⟩, List.mem_of_getElem? (i := 127) (by decide +kernel), List.mem_of_getElem? (i := 651) (by decide +kernel), List.mem_of_getElem? (i := 652) (by decide +kernel)⟩
theorem lw_p8 : lw_okq (⟨"WordTongue$Scanner", "name", "(I)V"⟩, 11) := ⟨⟨by decide +kernel, by decide +kernel⟩, List.mem_of_getElem? (i := 127) (by decide +kernel), List.mem_of_getElem? (i := 658) (by decide +kernel), List.mem_of_getElem? (i := 659) (by decide +kernel)⟩
theorem lw_p9 : lw_okq (⟨"WordTongue$Scanner", "restEnd", "(I)I"⟩, 11) := ⟨⟨by decide +kernel, by decide +kernel⟩, List.mem_of_getElem? (i := 127) (by decide +kernel), List.mem_of_getElem? (i := 662) (by decide +kernel), List.mem_of_getElem? (i := 663) (by decide +kernel)⟩
theorem lw_p10 : lw_okq (⟨"WordTongue$Scanner", "number", "(III)V"⟩, 11) := ⟨⟨by decide +kernel, by decide +kernel⟩, List.mem_of_getElem? (i := 127) (by decide +kernel), List.mem_of_getElem? (i := 672) (by decide +kernel), List.mem_of_getElem? (i := 673) (by decide +kernel)⟩
theorem lw_p11 : lw_okq (⟨"WordTongue$Scanner", "quoted", "(I)I"⟩, 11) := ⟨⟨by decide +kernel, by decide +kernel⟩, List.mem_of_getElem? (i := 127) (by decide +kernel), List.mem_of_getElem? (i := 684) (by decide +kernel), List.mem_of_getElem? (i := 685) (by decide +kernel)⟩
theorem lw_p12 : lw_okq (⟨"WordTongue$Scanner", "string", "(I)V"⟩, 11) := ⟨⟨by decide +kernel, by decide +kernel⟩, List.mem_of_getElem? (i := 127) (by decide +kernel), List.mem_of_getElem? (i := 688) (by decide +kernel), List.mem_of_getElem? (i := 689) (by decide +kernel)⟩
theorem lw_p13 : lw_okq (⟨"WordTongue$Scanner", "section", "(I)V"⟩, 11) := ⟨⟨by decide +kernel, by decide +kernel⟩, List.mem_of_getElem? (i := 127) (by decide +kernel), List.mem_of_getElem? (i := 696) (by decide +kernel), List.mem_of_getElem? (i := 697) (by decide +kernel)⟩
theorem lw_p14 : lw_okq (⟨"WordTongue$Scanner", "sign", "(II)V"⟩, 11) := ⟨⟨by decide +kernel, by decide +kernel⟩, List.mem_of_getElem? (i := 127) (by decide +kernel), List.mem_of_getElem? (i := 700) (by decide +kernel), List.mem_of_getElem? (i := 701) (by decide +kernel)⟩
theorem lw_p15 : lw_okq (⟨"WordTongue$Parser", "text", "()I"⟩, 12) := ⟨⟨by decide +kernel, by decide +kernel⟩, List.mem_of_getElem? (i := 271) (by decide +kernel), List.mem_of_getElem? (i := 727) (by decide +kernel), List.mem_of_getElem? (i := 728) (by decide +kernel)⟩
def lw_privs_1 : List (MethodName × Nat) := [(⟨"WordTongue$Scanner", "know", "(Ljava/lang/String;)V"⟩, 11), (⟨"WordTongue$Scanner", "idOf", "(LWordTongue$Ints;II)I"⟩, 11), (⟨"WordTongue$Scanner", "isAlike", "(ILWordTongue$Ints;II)Z"⟩, 11), (⟨"WordTongue", "addBytes", "(I)V"⟩, 10), (⟨"WordTongue$Scanner", "pass", "()V"⟩, 11), (⟨"WordTongue$Scanner", "skipLine", "()V"⟩, 11), (⟨"WordTongue$Scanner", "put", "(III)V"⟩, 11), (⟨"WordTongue$Scanner", "token", "()V"⟩, 11), (⟨"WordTongue$Scanner", "name", "(I)V"⟩, 11), (⟨"WordTongue$Scanner", "restEnd", "(I)I"⟩, 11), (⟨"WordTongue$Scanner", "number", "(III)V"⟩, 11), (⟨"WordTongue$Scanner", "quoted", "(I)I"⟩, 11), (⟨"WordTongue$Scanner", "string", "(I)V"⟩, 11), (⟨"WordTongue$Scanner", "section", "(I)V"⟩, 11), (⟨"WordTongue$Scanner", "sign", "(II)V"⟩, 11), (⟨"WordTongue$Parser", "text", "()I"⟩, 12)]
theorem lw_r1 : ∀ q ∈ lw_privs_1, lw_okq q := List.forall_mem_cons.mpr ⟨lw_p0, List.forall_mem_cons.mpr ⟨lw_p1, List.forall_mem_cons.mpr ⟨lw_p2, List.forall_mem_cons.mpr ⟨lw_p3, List.forall_mem_cons.mpr ⟨lw_p4, List.forall_mem_cons.mpr ⟨lw_p5, List.forall_mem_cons.mpr ⟨lw_p6, List.forall_mem_cons.mpr ⟨lw_p7, List.forall_mem_cons.mpr ⟨lw_p8, List.forall_mem_cons.mpr ⟨lw_p9, List.forall_mem_cons.mpr ⟨lw_p10, List.forall_mem_cons.mpr ⟨lw_p11, List.forall_mem_cons.mpr ⟨lw_p12, List.forall_mem_cons.mpr ⟨lw_p13, List.forall_mem_cons.mpr ⟨lw_p14, List.forall_mem_cons.mpr ⟨lw_p15, fun _ h => absurd h List.not_mem_nil⟩⟩⟩⟩⟩⟩⟩⟩⟩⟩⟩⟩⟩⟩⟩⟩
theorem lw_p16 : lw_okq (⟨"WordTongue$Parser", "place", "()I"⟩, 12) := ⟨⟨by decide +kernel, by decide +kernel⟩, List.mem_of_getElem? (i := 271) (by decide +kernel), List.mem_of_getElem? (i := 731) (by decide +kernel), List.mem_of_getElem? (i := 732) (by decide +kernel)⟩
theorem lw_p17 : lw_okq (⟨"WordTongue$Parser", "declaration", "(Z)I"⟩, 12) := ⟨⟨by decide +kernel, by decide +kernel⟩, List.mem_of_getElem? (i := 271) (by decide +kernel), List.mem_of_getElem? (i := 737) (by decide +kernel), List.mem_of_getElem? (i := 738) (by decide +kernel)⟩
theorem lw_p18 : lw_okq (⟨"WordTongue$Parser", "kind", "()I"⟩, 12) := ⟨⟨by decide +kernel, by decide +kernel⟩, List.mem_of_getElem? (i := 271) (by decide +kernel), List.mem_of_getElem? (i := 741) (by decide +kernel), List.mem_of_getElem? (i := 742) (by decide +kernel)⟩
theorem lw_p19 : lw_okq (⟨"WordTongue$Parser", "definitions", "(Z)I"⟩, 12) := ⟨⟨by decide +kernel, by decide +kernel⟩, List.mem_of_getElem? (i := 271) (by decide +kernel), List.mem_of_getElem? (i := 745) (by decide +kernel), List.mem_of_getElem? (i := 746) (by decide +kernel)⟩
theorem lw_p20 : lw_okq (⟨"WordTongue$Parser", "leaf", "(I)I"⟩, 12) := ⟨⟨by decide +kernel, by decide +kernel⟩, List.mem_of_getElem? (i := 271) (by decide +kernel), List.mem_of_getElem? (i := 749) (by decide +kernel), List.mem_of_getElem? (i := 750) (by decide +kernel)⟩
theorem lw_p21 : lw_okq (⟨"WordTongue$Parser", "info", "()I"⟩, 12) := ⟨⟨by decide +kernel, by decide +kernel⟩, List.mem_of_getElem? (i := 271) (by decide +kernel), List.mem_of_getElem? (i := 753) (by decide +kernel), List.mem_of_getElem? (i := 754) (by decide +kernel)⟩
theorem lw_p22 : lw_okq (⟨"WordTongue$Parser", "advance", "()V"⟩, 12) := ⟨⟨by decide +kernel, by decide +kernel⟩, List.mem_of_getElem? (i := 271) (by decide +kernel), List.mem_of_getElem? (i := 757) (by decide +kernel), List.mem_of_getElem? (i := 758) (by decide +kernel)⟩
theorem lw_p23 : lw_okq (⟨"WordTongue$Parser", "open", "()V"⟩, 12) := ⟨⟨by decide +kernel, by decide +kernel⟩, List.mem_of_getElem? (i := 271) (by decide +kernel), List.mem_of_getElem? (i := 761) (by decide +kernel), List.mem_of_getElem? (i := 762) (by decide +kernel)⟩
theorem lw_p24 : lw_okq (⟨"WordTongue$Parser", "refuse", "()V"⟩, 12) := ⟨⟨by decide +kernel, by decide +kernel⟩, List.mem_of_getElem? (i := 271) (by decide +kernel), List.mem_of_getElem? (i := 765) (by decide +kernel), List.mem_of_getElem? (i := 766) (by decide +kernel)⟩
theorem lw_p25 : lw_okq (⟨"java/lang/Throwable", "fillInStackTrace", "(I)Ljava/lang/Throwable;"⟩, 6) := ⟨⟨by decide +kernel, by decide +kernel⟩, List.mem_of_getElem? (i := 809) (by decide +kernel), List.mem_of_getElem? (i := 807) (by decide +kernel), List.mem_of_getElem? (i := 808) (by decide +kernel)⟩
theorem lw_p26 : lw_okq (⟨"WordTongue$Parser", "enter", "()V"⟩, 12) := ⟨⟨by decide +kernel, by decide +kernel⟩, List.mem_of_getElem? (i := 271) (by decide +kernel), List.mem_of_getElem? (i := 838) (by decide +kernel), List.mem_of_getElem? (i := 839) (by decide +kernel)⟩
theorem lw_p27 : lw_okq (⟨"WordTongue$Parser", "nameDue", "()I"⟩, 12) := ⟨⟨by decide +kernel, by decide +kernel⟩, List.mem_of_getElem? (i := 271) (by decide +kernel), List.mem_of_getElem? (i := 843) (by decide +kernel), List.mem_of_getElem? (i := 844) (by decide +kernel)⟩
theorem lw_p28 : lw_okq (⟨"WordTongue$Parser", "due", "(I)V"⟩, 12) := ⟨⟨by decide +kernel, by decide +kernel⟩, List.mem_of_getElem? (i := 271) (by decide +kernel), List.mem_of_getElem? (i := 847) (by decide +kernel), List.mem_of_getElem? (i := 848) (by decide +kernel)⟩
theorem lw_p29 : lw_okq (⟨"WordTongue$Parser", "expression", "()I"⟩, 12) := ⟨⟨by decide +kernel, by decide +kernel⟩, List.mem_of_getElem? (i := 271) (by decide +kernel), List.mem_of_getElem? (i := 865) (by decide +kernel), List.mem_of_getElem? (i := 866) (by decide +kernel)⟩
theorem lw_p30 : lw_okq (⟨"WordTongue$Parser", "operand", "(I)V"⟩, 12) := ⟨⟨by decide +kernel, by decide +kernel⟩, List.mem_of_getElem? (i := 271) (by decide +kernel), List.mem_of_getElem? (i := 870) (by decide +kernel), List.mem_of_getElem? (i := 871) (by decide +kernel)⟩
theorem lw_p31 : lw_okq (⟨"WordTongue$Parser", "passSigns", "(Z)V"⟩, 12) := ⟨⟨by decide +kernel, by decide +kernel⟩, List.mem_of_getElem? (i := 271) (by decide +kernel), List.mem_of_getElem? (i := 874) (by decide +kernel), List.mem_of_getElem? (i := 875) (by decide +kernel)⟩
def lw_privs_2 : List (MethodName × Nat) := [(⟨"WordTongue$Parser", "place", "()I"⟩, 12), (⟨"WordTongue$Parser", "declaration", "(Z)I"⟩, 12), (⟨"WordTongue$Parser", "kind", "()I"⟩, 12), (⟨"WordTongue$Parser", "definitions", "(Z)I"⟩, 12), (⟨"WordTongue$Parser", "leaf", "(I)I"⟩, 12), (⟨"WordTongue$Parser", "info", "()I"⟩, 12), (⟨"WordTongue$Parser", "advance", "()V"⟩, 12), (⟨"WordTongue$Parser", "open", "()V"⟩, 12), (⟨"WordTongue$Parser", "refuse", "()V"⟩, 12), (⟨"java/lang/Throwable", "fillInStackTrace", "(I)Ljava/lang/Throwable;"⟩, 6), (⟨"WordTongue$Parser", "enter", "()V"⟩, 12), (⟨"WordTongue$Parser", "nameDue", "()I"⟩, 12), (⟨"WordTongue$Parser", "due", "(I)V"⟩, 12), (⟨"WordTongue$Parser", "expression", "()I"⟩, 12), (⟨"WordTongue$Parser", "operand", "(I)V"⟩, 12), (⟨"WordTongue$Parser", "passSigns", "(Z)V"⟩, 12)]
theorem lw_r2 : ∀ q ∈ lw_privs_2, lw_okq q := List.forall_mem_cons.mpr ⟨lw_p16, List.forall_mem_cons.mpr ⟨lw_p17, List.forall_mem_cons.mpr ⟨lw_p18, List.forall_mem_cons.mpr ⟨lw_p19, List.forall_mem_cons.mpr ⟨lw_p20, List.forall_mem_cons.mpr ⟨lw_p21, List.forall_mem_cons.mpr ⟨lw_p22, List.forall_mem_cons.mpr ⟨lw_p23, List.forall_mem_cons.mpr ⟨lw_p24, List.forall_mem_cons.mpr ⟨lw_p25, List.forall_mem_cons.mpr ⟨lw_p26, List.forall_mem_cons.mpr ⟨lw_p27, List.forall_mem_cons.mpr ⟨lw_p28, List.forall_mem_cons.mpr ⟨lw_p29, List.forall_mem_cons.mpr ⟨lw_p30, List.forall_mem_cons.mpr ⟨lw_p31, fun _ h => absurd h List.not_mem_nil⟩⟩⟩⟩⟩⟩⟩⟩⟩⟩⟩⟩⟩⟩⟩⟩
theorem lw_p32 : lw_okq (⟨"WordTongue$Parser", "command", "()I"⟩, 12) := ⟨⟨by decide +kernel, by decide +kernel⟩, List.mem_of_getElem? (i := 271) (by decide +kernel), List.mem_of_getElem? (i := 878) (by decide +kernel), List.mem_of_getElem? (i := 879) (by decide +kernel)⟩
theorem lw_p33 : lw_okq (⟨"WordTongue$Parser", "section", "(Z)I"⟩, 12) := ⟨⟨by decide +kernel, by decide +kernel⟩, List.mem_of_getElem? (i := 271) (by decide +kernel), List.mem_of_getElem? (i := 882) (by decide +kernel), List.mem_of_getElem? (i := 883) (by decide +kernel)⟩
theorem lw_p34 : lw_okq (⟨"WordTongue$Parser", "cases", "(I)V"⟩, 12) := ⟨⟨by decide +kernel, by decide +kernel⟩, List.mem_of_getElem? (i := 271) (by decide +kernel), List.mem_of_getElem? (i := 890) (by decide +kernel), List.mem_of_getElem? (i := 891) (by decide +kernel)⟩
theorem lw_p35 : lw_okq (⟨"WordTongue$Parser", "labels", "(I)V"⟩, 12) := ⟨⟨by decide +kernel, by decide +kernel⟩, List.mem_of_getElem? (i := 271) (by decide +kernel), List.mem_of_getElem? (i := 894) (by decide +kernel), List.mem_of_getElem? (i := 895) (by decide +kernel)⟩
theorem lw_p36 : lw_okq (⟨"WordTongue$Parser", "close", "()V"⟩, 12) := ⟨⟨by decide +kernel, by decide +kernel⟩, List.mem_of_getElem? (i := 271) (by decide +kernel), List.mem_of_getElem? (i := 898) (by decide +kernel), List.mem_of_getElem? (i := 899) (by decide +kernel)⟩
theorem lw_p37 : lw_okq (⟨"WordTongue$Parser", "isOpen", "(I)Z"⟩, 12) := ⟨⟨by decide +kernel, by decide +kernel⟩, List.mem_of_getElem? (i := 271) (by decide +kernel), List.mem_of_getElem? (i := 906) (by decide +kernel), List.mem_of_getElem? (i := 907) (by decide +kernel)⟩
theorem lw_p38 : lw_okq (⟨"WordTongue$Parser", "conditional", "()I"⟩, 12) := ⟨⟨by decide +kernel, by decide +kernel⟩, List.mem_of_getElem? (i := 271) (by decide +kernel), List.mem_of_getElem? (i := 910) (by decide +kernel), List.mem_of_getElem? (i := 911) (by decide +kernel)⟩
theorem lw_p39 : lw_okq (⟨"WordTongue$Parser", "passDo", "()V"⟩, 12) := ⟨⟨by decide +kernel, by decide +kernel⟩, List.mem_of_getElem? (i := 271) (by decide +kernel), List.mem_of_getElem? (i := 914) (by decide +kernel), List.mem_of_getElem? (i := 915) (by decide +kernel)⟩
theorem lw_p40 : lw_okq (⟨"WordTongue$Parser", "counting", "()I"⟩, 12) := ⟨⟨by decide +kernel, by decide +kernel⟩, List.mem_of_getElem? (i := 271) (by decide +kernel), List.mem_of_getElem? (i := 922) (by decide +kernel), List.mem_of_getElem? (i := 923) (by decide +kernel)⟩
theorem lw_p41 : lw_okq (⟨"WordTongue$Parser", "switching", "()I"⟩, 12) := ⟨⟨by decide +kernel, by decide +kernel⟩, List.mem_of_getElem? (i := 271) (by decide +kernel), List.mem_of_getElem? (i := 930) (by decide +kernel), List.mem_of_getElem? (i := 931) (by decide +kernel)⟩
theorem lw_p42 : lw_okq (⟨"WordTongue$Parser", "assignment", "()I"⟩, 12) := ⟨⟨by decide +kernel, by decide +kernel⟩, List.mem_of_getElem? (i := 271) (by decide +kernel), List.mem_of_getElem? (i := 934) (by decide +kernel), List.mem_of_getElem? (i := 935) (by decide +kernel)⟩
theorem lw_p43 : lw_okq (⟨"WordTongue$Parser", "isCall", "(I)Z"⟩, 12) := ⟨⟨by decide +kernel, by decide +kernel⟩, List.mem_of_getElem? (i := 271) (by decide +kernel), List.mem_of_getElem? (i := 942) (by decide +kernel), List.mem_of_getElem? (i := 943) (by decide +kernel)⟩
theorem lw_p44 : lw_okq (⟨"WordTongue$Parser", "repeats", "(I)I"⟩, 12) := ⟨⟨by decide +kernel, by decide +kernel⟩, List.mem_of_getElem? (i := 271) (by decide +kernel), List.mem_of_getElem? (i := 957) (by decide +kernel), List.mem_of_getElem? (i := 958) (by decide +kernel)⟩
theorem lw_p45 : lw_okq (⟨"WordTongue$Parser", "primary", "()I"⟩, 12) := ⟨⟨by decide +kernel, by decide +kernel⟩, List.mem_of_getElem? (i := 271) (by decide +kernel), List.mem_of_getElem? (i := 965) (by decide +kernel), List.mem_of_getElem? (i := 966) (by decide +kernel)⟩
theorem lw_p46 : lw_okq (⟨"WordTongue$Parser", "pack", "(I)I"⟩, 12) := ⟨⟨by decide +kernel, by decide +kernel⟩, List.mem_of_getElem? (i := 271) (by decide +kernel), List.mem_of_getElem? (i := 969) (by decide +kernel), List.mem_of_getElem? (i := 970) (by decide +kernel)⟩
theorem lw_p47 : lw_okq (⟨"WordTongue$Parser", "table", "()I"⟩, 12) := ⟨⟨by decide +kernel, by decide +kernel⟩, List.mem_of_getElem? (i := 271) (by decide +kernel), List.mem_of_getElem? (i := 977) (by decide +kernel), List.mem_of_getElem? (i := 978) (by decide +kernel)⟩
def lw_privs_3 : List (MethodName × Nat) := [(⟨"WordTongue$Parser", "command", "()I"⟩, 12), (⟨"WordTongue$Parser", "section", "(Z)I"⟩, 12), (⟨"WordTongue$Parser", "cases", "(I)V"⟩, 12), (⟨"WordTongue$Parser", "labels", "(I)V"⟩, 12), (⟨"WordTongue$Parser", "close", "()V"⟩, 12), (⟨"WordTongue$Parser", "isOpen", "(I)Z"⟩, 12), (⟨"WordTongue$Parser", "conditional", "()I"⟩, 12), (⟨"WordTongue$Parser", "passDo", "()V"⟩, 12), (⟨"WordTongue$Parser", "counting", "()I"⟩, 12), (⟨"WordTongue$Parser", "switching", "()I"⟩, 12), (⟨"WordTongue$Parser", "assignment", "()I"⟩, 12), (⟨"WordTongue$Parser", "isCall", "(I)Z"⟩, 12), (⟨"WordTongue$Parser", "repeats", "(I)I"⟩, 12), (⟨"WordTongue$Parser", "primary", "()I"⟩, 12), (⟨"WordTongue$Parser", "pack", "(I)I"⟩, 12), (⟨"WordTongue$Parser", "table", "()I"⟩, 12)]
theorem lw_r3 : ∀ q ∈ lw_privs_3, lw_okq q := List.forall_mem_cons.mpr ⟨lw_p32, List.forall_mem_cons.mpr ⟨lw_p33, List.forall_mem_cons.mpr ⟨lw_p34, List.forall_mem_cons.mpr ⟨lw_p35, List.forall_mem_cons.mpr ⟨lw_p36, List.forall_mem_cons.mpr ⟨lw_p37, List.forall_mem_cons.mpr ⟨lw_p38, List.forall_mem_cons.mpr ⟨lw_p39, List.forall_mem_cons.mpr ⟨lw_p40, List.forall_mem_cons.mpr ⟨lw_p41, List.forall_mem_cons.mpr ⟨lw_p42, List.forall_mem_cons.mpr ⟨lw_p43, List.forall_mem_cons.mpr ⟨lw_p44, List.forall_mem_cons.mpr ⟨lw_p45, List.forall_mem_cons.mpr ⟨lw_p46, List.forall_mem_cons.mpr ⟨lw_p47, fun _ h => absurd h List.not_mem_nil⟩⟩⟩⟩⟩⟩⟩⟩⟩⟩⟩⟩⟩⟩⟩⟩
theorem lw_p48 : lw_okq (⟨"WordTongue$Parser", "calls", "(I)I"⟩, 12) := ⟨⟨by decide +kernel, by decide +kernel⟩, List.mem_of_getElem? (i := 271) (by decide +kernel), List.mem_of_getElem? (i := 981) (by decide +kernel), List.mem_of_getElem? (i := 982) (by decide +kernel)⟩
theorem lw_p49 : lw_okq (⟨"WordTongue$Parser", "hangSigns", "(II)V"⟩, 12) := ⟨⟨by decide +kernel, by decide +kernel⟩, List.mem_of_getElem? (i := 271) (by decide +kernel), List.mem_of_getElem? (i := 985) (by decide +kernel), List.mem_of_getElem? (i := 986) (by decide +kernel)⟩
theorem lw_p50 : lw_okq (⟨"WordTongue$Parser", "settle", "(III)V"⟩, 12) := ⟨⟨by decide +kernel, by decide +kernel⟩, List.mem_of_getElem? (i := 271) (by decide +kernel), List.mem_of_getElem? (i := 990) (by decide +kernel), List.mem_of_getElem? (i := 991) (by decide +kernel)⟩
theorem lw_p51 : lw_okq (⟨"WordTongue$Parser", "variables", "(I)V"⟩, 12) := ⟨⟨by decide +kernel, by decide +kernel⟩, List.mem_of_getElem? (i := 271) (by decide +kernel), List.mem_of_getElem? (i := 1001) (by decide +kernel), List.mem_of_getElem? (i := 1002) (by decide +kernel)⟩
theorem lw_p52 : lw_okq (⟨"WordTongue$Parser", "routine", "(Z)I"⟩, 12) := ⟨⟨by decide +kernel, by decide +kernel⟩, List.mem_of_getElem? (i := 271) (by decide +kernel), List.mem_of_getElem? (i := 1005) (by decide +kernel), List.mem_of_getElem? (i := 1006) (by decide +kernel)⟩
theorem lw_p53 : lw_okq (⟨"WordTongue$Parser", "isGlobal", "(I)Z"⟩, 12) := ⟨⟨by decide +kernel, by decide +kernel⟩, List.mem_of_getElem? (i := 271) (by decide +kernel), List.mem_of_getElem? (i := 1009) (by decide +kernel), List.mem_of_getElem? (i := 1010) (by decide +kernel)⟩
theorem lw_p54 : lw_okq (⟨"WordTongue$Parser", "names", "(I)V"⟩, 12) := ⟨⟨by decide +kernel, by decide +kernel⟩, List.mem_of_getElem? (i := 271) (by decide +kernel), List.mem_of_getElem? (i := 1022) (by decide +kernel), List.mem_of_getElem? (i := 1023) (by decide +kernel)⟩
theorem lw_p55 : lw_okq (⟨"WordTongue$Scope", "cut", "(I)V"⟩, 8) := ⟨⟨by decide +kernel, by decide +kernel⟩, List.mem_of_getElem? (i := 342) (by decide +kernel), List.mem_of_getElem? (i := 1038) (by decide +kernel), List.mem_of_getElem? (i := 1039) (by decide +kernel)⟩
theorem lw_p56 : lw_okq (⟨"WordTongue$Scope", "put", "(IIIII)I"⟩, 8) := ⟨⟨by decide +kernel, by decide +kernel⟩, List.mem_of_getElem? (i := 342) (by decide +kernel), List.mem_of_getElem? (i := 1044) (by decide +kernel), List.mem_of_getElem? (i := 1045) (by decide +kernel)⟩
theorem lw_p57 : lw_okq (⟨"WordTongue$Coder", "leaveAll", "()V"⟩, 19) := ⟨⟨by decide +kernel, by decide +kernel⟩, List.mem_of_getElem? (i := 333) (by decide +kernel), List.mem_of_getElem? (i := 1051) (by decide +kernel), List.mem_of_getElem? (i := 1052) (by decide +kernel)⟩
theorem lw_p58 : lw_okq (⟨"WordTongue$Coder", "section", "(I)V"⟩, 19) := ⟨⟨by decide +kernel, by decide +kernel⟩, List.mem_of_getElem? (i := 333) (by decide +kernel), List.mem_of_getElem? (i := 1055) (by decide +kernel), List.mem_of_getElem? (i := 1056) (by decide +kernel)⟩
theorem lw_p59 : lw_okq (⟨"WordTongue$Coder", "entrance", "(I)V"⟩, 19) := ⟨⟨by decide +kernel, by decide +kernel⟩, List.mem_of_getElem? (i := 333) (by decide +kernel), List.mem_of_getElem? (i := 1087) (by decide +kernel), List.mem_of_getElem? (i := 1088) (by decide +kernel)⟩
theorem lw_p60 : lw_okq (⟨"WordTongue$Constants", "reckon", "(IZ)I"⟩, 7) := ⟨⟨by decide +kernel, by decide +kernel⟩, List.mem_of_getElem? (i := 376) (by decide +kernel), List.mem_of_getElem? (i := 1097) (by decide +kernel), List.mem_of_getElem? (i := 1098) (by decide +kernel)⟩
theorem lw_p61 : lw_okq (⟨"WordTongue$Constants", "choose", "(IZ)I"⟩, 7) := ⟨⟨by decide +kernel, by decide +kernel⟩, List.mem_of_getElem? (i := 376) (by decide +kernel), List.mem_of_getElem? (i := 1106) (by decide +kernel), List.mem_of_getElem? (i := 1107) (by decide +kernel)⟩
theorem lw_p62 : lw_okq (⟨"WordTongue$Constants", "fail", "(II)V"⟩, 7) := ⟨⟨by decide +kernel, by decide +kernel⟩, List.mem_of_getElem? (i := 376) (by decide +kernel), List.mem_of_getElem? (i := 1111) (by decide +kernel), List.mem_of_getElem? (i := 1112) (by decide +kernel)⟩
theorem lw_p63 : lw_okq (⟨"WordTongue$Constants", "relate", "(IZZ)Z"⟩, 7) := ⟨⟨by decide +kernel, by decide +kernel⟩, List.mem_of_getElem? (i := 376) (by decide +kernel), List.mem_of_getElem? (i := 1117) (by decide +kernel), List.mem_of_getElem? (i := 1118) (by decide +kernel)⟩
def lw_privs_4 : List (MethodName × Nat) := [(⟨"WordTongue$Parser", "calls", "(I)I"⟩, 12), (⟨"WordTongue$Parser", "hangSigns", "(II)V"⟩, 12), (⟨"WordTongue$Parser", "settle", "(III)V"⟩, 12), (⟨"WordTongue$Parser", "variables", "(I)V"⟩, 12), (⟨"WordTongue$Parser", "routine", "(Z)I"⟩, 12), (⟨"WordTongue$Parser", "isGlobal", "(I)Z"⟩, 12), (⟨"WordTongue$Parser", "names", "(I)V"⟩, 12), (⟨"WordTongue$Scope", "cut", "(I)V"⟩, 8), (⟨"WordTongue$Scope", "put", "(IIIII)I"⟩, 8), (⟨"WordTongue$Coder", "leaveAll", "()V"⟩, 19), (⟨"WordTongue$Coder", "section", "(I)V"⟩, 19), (⟨"WordTongue$Coder", "entrance", "(I)V"⟩, 19), (⟨"WordTongue$Constants", "reckon", "(IZ)I"⟩, 7), (⟨"WordTongue$Constants", "choose", "(IZ)I"⟩, 7), (⟨"WordTongue$Constants", "fail", "(II)V"⟩, 7), (⟨"WordTongue$Constants", "relate", "(IZZ)Z"⟩, 7)]
theorem lw_r4 : ∀ q ∈ lw_privs_4, lw_okq q := List.forall_mem_cons.mpr ⟨lw_p48, List.forall_mem_cons.mpr ⟨lw_p49, List.forall_mem_cons.mpr ⟨lw_p50, List.forall_mem_cons.mpr ⟨lw_p51, List.forall_mem_cons.mpr ⟨lw_p52, List.forall_mem_cons.mpr ⟨lw_p53, List.forall_mem_cons.mpr ⟨lw_p54, List.forall_mem_cons.mpr ⟨lw_p55, List.forall_mem_cons.mpr ⟨lw_p56, List.forall_mem_cons.mpr ⟨lw_p57, List.forall_mem_cons.mpr ⟨lw_p58, List.forall_mem_cons.mpr ⟨lw_p59, List.forall_mem_cons.mpr ⟨lw_p60, List.forall_mem_cons.mpr ⟨lw_p61, List.forall_mem_cons.mpr ⟨lw_p62, List.forall_mem_cons.mpr ⟨lw_p63, fun _ h => absurd h List.not_mem_nil⟩⟩⟩⟩⟩⟩⟩⟩⟩⟩⟩⟩⟩⟩⟩⟩
theorem lw_p64 : lw_okq (⟨"WordTongue$Constants", "work", "(IZI)V"⟩, 7) := ⟨⟨by decide +kernel, by decide +kernel⟩, List.mem_of_getElem? (i := 376) (by decide +kernel), List.mem_of_getElem? (i := 1125) (by decide +kernel), List.mem_of_getElem? (i := 1126) (by decide +kernel)⟩
theorem lw_p65 : lw_okq (⟨"WordTongue$Constants", "single", "(III)V"⟩, 7) := ⟨⟨by decide +kernel, by decide +kernel⟩, List.mem_of_getElem? (i := 376) (by decide +kernel), List.mem_of_getElem? (i := 1151) (by decide +kernel), List.mem_of_getElem? (i := 1152) (by decide +kernel)⟩
theorem lw_p66 : lw_okq (⟨"WordTongue$Coder", "routines", "(I)V"⟩, 19) := ⟨⟨by decide +kernel, by decide +kernel⟩, List.mem_of_getElem? (i := 333) (by decide +kernel), List.mem_of_getElem? (i := 1161) (by decide +kernel), List.mem_of_getElem? (i := 1162) (by decide +kernel)⟩
theorem lw_p67 : lw_okq (⟨"WordTongue$Coder", "routineName", "(I)V"⟩, 19) := ⟨⟨by decide +kernel, by decide +kernel⟩, List.mem_of_getElem? (i := 333) (by decide +kernel), List.mem_of_getElem? (i := 1165) (by decide +kernel), List.mem_of_getElem? (i := 1166) (by decide +kernel)⟩
theorem lw_p68 : lw_okq (⟨"WordTongue$Coder", "routine", "(I)V"⟩, 19) := ⟨⟨by decide +kernel, by decide +kernel⟩, List.mem_of_getElem? (i := 333) (by decide +kernel), List.mem_of_getElem? (i := 1192) (by decide +kernel), List.mem_of_getElem? (i := 1193) (by decide +kernel)⟩
theorem lw_p69 : lw_okq (⟨"WordTongue$Coder", "emit", "(II)I"⟩, 19) := ⟨⟨by decide +kernel, by decide +kernel⟩, List.mem_of_getElem? (i := 333) (by decide +kernel), List.mem_of_getElem? (i := 1196) (by decide +kernel), List.mem_of_getElem? (i := 1197) (by decide +kernel)⟩
theorem lw_p70 : lw_okq (⟨"WordTongue$Coder", "parameters", "(I)I"⟩, 19) := ⟨⟨by decide +kernel, by decide +kernel⟩, List.mem_of_getElem? (i := 333) (by decide +kernel), List.mem_of_getElem? (i := 1201) (by decide +kernel), List.mem_of_getElem? (i := 1202) (by decide +kernel)⟩
theorem lw_p71 : lw_okq (⟨"WordTongue$Coder", "expression", "(III)V"⟩, 19) := ⟨⟨by decide +kernel, by decide +kernel⟩, List.mem_of_getElem? (i := 333) (by decide +kernel), List.mem_of_getElem? (i := 1210) (by decide +kernel), List.mem_of_getElem? (i := 1211) (by decide +kernel)⟩
theorem lw_p72 : lw_okq (⟨"WordTongue$Coder", "calls", "(I)V"⟩, 19) := ⟨⟨by decide +kernel, by decide +kernel⟩, List.mem_of_getElem? (i := 333) (by decide +kernel), List.mem_of_getElem? (i := 1214) (by decide +kernel), List.mem_of_getElem? (i := 1215) (by decide +kernel)⟩
theorem lw_p73 : lw_okq (⟨"WordTongue$Coder", "arguments", "(II)V"⟩, 19) := ⟨⟨by decide +kernel, by decide +kernel⟩, List.mem_of_getElem? (i := 333) (by decide +kernel), List.mem_of_getElem? (i := 1218) (by decide +kernel), List.mem_of_getElem? (i := 1219) (by decide +kernel)⟩
theorem lw_p74 : lw_okq (⟨"WordTongue$Coder", "unfit", "(II)V"⟩, 19) := ⟨⟨by decide +kernel, by decide +kernel⟩, List.mem_of_getElem? (i := 333) (by decide +kernel), List.mem_of_getElem? (i := 1222) (by decide +kernel), List.mem_of_getElem? (i := 1223) (by decide +kernel)⟩
theorem lw_p75 : lw_okq (⟨"WordTongue$Coder", "valof", "(I)V"⟩, 19) := ⟨⟨by decide +kernel, by decide +kernel⟩, List.mem_of_getElem? (i := 333) (by decide +kernel), List.mem_of_getElem? (i := 1226) (by decide +kernel), List.mem_of_getElem? (i := 1227) (by decide +kernel)⟩
theorem lw_p76 : lw_okq (⟨"WordTongue$Coder", "command", "(I)V"⟩, 19) := ⟨⟨by decide +kernel, by decide +kernel⟩, List.mem_of_getElem? (i := 333) (by decide +kernel), List.mem_of_getElem? (i := 1230) (by decide +kernel), List.mem_of_getElem? (i := 1231) (by decide +kernel)⟩
theorem lw_p77 : lw_okq (⟨"WordTongue$Coder", "repeats", "(I)V"⟩, 19) := ⟨⟨by decide +kernel, by decide +kernel⟩, List.mem_of_getElem? (i := 333) (by decide +kernel), List.mem_of_getElem? (i := 1234) (by decide +kernel), List.mem_of_getElem? (i := 1235) (by decide +kernel)⟩
theorem lw_p78 : lw_okq (⟨"WordTongue$Coder", "assignment", "(I)V"⟩, 19) := ⟨⟨by decide +kernel, by decide +kernel⟩, List.mem_of_getElem? (i := 333) (by decide +kernel), List.mem_of_getElem? (i := 1242) (by decide +kernel), List.mem_of_getElem? (i := 1243) (by decide +kernel)⟩
theorem lw_p79 : lw_okq (⟨"WordTongue$Coder", "isByte", "(I)Z"⟩, 19) := ⟨⟨by decide +kernel, by decide +kernel⟩, List.mem_of_getElem? (i := 333) (by decide +kernel), List.mem_of_getElem? (i := 1246) (by decide +kernel), List.mem_of_getElem? (i := 1247) (by decide +kernel)⟩
def lw_privs_5 : List (MethodName × Nat) := [(⟨"WordTongue$Constants", "work", "(IZI)V"⟩, 7), (⟨"WordTongue$Constants", "single", "(III)V"⟩, 7), (⟨"WordTongue$Coder", "routines", "(I)V"⟩, 19), (⟨"WordTongue$Coder", "routineName", "(I)V"⟩, 19), (⟨"WordTongue$Coder", "routine", "(I)V"⟩, 19), (⟨"WordTongue$Coder", "emit", "(II)I"⟩, 19), (⟨"WordTongue$Coder", "parameters", "(I)I"⟩, 19), (⟨"WordTongue$Coder", "expression", "(III)V"⟩, 19), (⟨"WordTongue$Coder", "calls", "(I)V"⟩, 19), (⟨"WordTongue$Coder", "arguments", "(II)V"⟩, 19), (⟨"WordTongue$Coder", "unfit", "(II)V"⟩, 19), (⟨"WordTongue$Coder", "valof", "(I)V"⟩, 19), (⟨"WordTongue$Coder", "command", "(I)V"⟩, 19), (⟨"WordTongue$Coder", "repeats", "(I)V"⟩, 19), (⟨"WordTongue$Coder", "assignment", "(I)V"⟩, 19), (⟨"WordTongue$Coder", "isByte", "(I)Z"⟩, 19)]
theorem lw_r5 : ∀ q ∈ lw_privs_5, lw_okq q := List.forall_mem_cons.mpr ⟨lw_p64, List.forall_mem_cons.mpr ⟨lw_p65, List.forall_mem_cons.mpr ⟨lw_p66, List.forall_mem_cons.mpr ⟨lw_p67, List.forall_mem_cons.mpr ⟨lw_p68, List.forall_mem_cons.mpr ⟨lw_p69, List.forall_mem_cons.mpr ⟨lw_p70, List.forall_mem_cons.mpr ⟨lw_p71, List.forall_mem_cons.mpr ⟨lw_p72, List.forall_mem_cons.mpr ⟨lw_p73, List.forall_mem_cons.mpr ⟨lw_p74, List.forall_mem_cons.mpr ⟨lw_p75, List.forall_mem_cons.mpr ⟨lw_p76, List.forall_mem_cons.mpr ⟨lw_p77, List.forall_mem_cons.mpr ⟨lw_p78, List.forall_mem_cons.mpr ⟨lw_p79, fun _ h => absurd h List.not_mem_nil⟩⟩⟩⟩⟩⟩⟩⟩⟩⟩⟩⟩⟩⟩⟩⟩
theorem lw_p80 : lw_okq (⟨"WordTongue$Coder", "conditional", "(I)V"⟩, 19) := ⟨⟨by decide +kernel, by decide +kernel⟩, List.mem_of_getElem? (i := 333) (by decide +kernel), List.mem_of_getElem? (i := 1254) (by decide +kernel), List.mem_of_getElem? (i := 1255) (by decide +kernel)⟩
theorem lw_p81 : lw_okq (⟨"WordTongue$Coder", "asking", "(I)V"⟩, 19) := ⟨⟨by decide +kernel, by decide +kernel⟩, List.mem_of_getElem? (i := 333) (by decide +kernel), List.mem_of_getElem? (i := 1258) (by decide +kernel), List.mem_of_getElem? (i := 1259) (by decide +kernel)⟩
theorem lw_p82 : lw_okq (⟨"WordTongue$Coder", "counting", "(I)V"⟩, 19) := ⟨⟨by decide +kernel, by decide +kernel⟩, List.mem_of_getElem? (i := 333) (by decide +kernel), List.mem_of_getElem? (i := 1266) (by decide +kernel), List.mem_of_getElem? (i := 1267) (by decide +kernel)⟩
theorem lw_p83 : lw_okq (⟨"WordTongue$Coder", "take", "(I)V"⟩, 19) := ⟨⟨by decide +kernel, by decide +kernel⟩, List.mem_of_getElem? (i := 333) (by decide +kernel), List.mem_of_getElem? (i := 1270) (by decide +kernel), List.mem_of_getElem? (i := 1271) (by decide +kernel)⟩
theorem lw_p84 : lw_okq (⟨"WordTongue$Coder", "switching", "(I)V"⟩, 19) := ⟨⟨by decide +kernel, by decide +kernel⟩, List.mem_of_getElem? (i := 333) (by decide +kernel), List.mem_of_getElem? (i := 1281) (by decide +kernel), List.mem_of_getElem? (i := 1282) (by decide +kernel)⟩
theorem lw_p85 : lw_okq (⟨"WordTongue$Coder", "telling", "(I)V"⟩, 19) := ⟨⟨by decide +kernel, by decide +kernel⟩, List.mem_of_getElem? (i := 333) (by decide +kernel), List.mem_of_getElem? (i := 1285) (by decide +kernel), List.mem_of_getElem? (i := 1286) (by decide +kernel)⟩
theorem lw_p86 : lw_okq (⟨"WordTongue$Coder", "leaving", "(I)V"⟩, 19) := ⟨⟨by decide +kernel, by decide +kernel⟩, List.mem_of_getElem? (i := 333) (by decide +kernel), List.mem_of_getElem? (i := 1289) (by decide +kernel), List.mem_of_getElem? (i := 1290) (by decide +kernel)⟩
theorem lw_p87 : lw_okq (⟨"WordTongue$Coder", "going", "(I)V"⟩, 19) := ⟨⟨by decide +kernel, by decide +kernel⟩, List.mem_of_getElem? (i := 333) (by decide +kernel), List.mem_of_getElem? (i := 1293) (by decide +kernel), List.mem_of_getElem? (i := 1294) (by decide +kernel)⟩
theorem lw_p88 : lw_okq (⟨"WordTongue$Coder", "choice", "(I)V"⟩, 19) := ⟨⟨by decide +kernel, by decide +kernel⟩, List.mem_of_getElem? (i := 333) (by decide +kernel), List.mem_of_getElem? (i := 1298) (by decide +kernel), List.mem_of_getElem? (i := 1299) (by decide +kernel)⟩
theorem lw_p89 : lw_okq (⟨"WordTongue$Coder", "table", "(I)V"⟩, 19) := ⟨⟨by decide +kernel, by decide +kernel⟩, List.mem_of_getElem? (i := 333) (by decide +kernel), List.mem_of_getElem? (i := 1302) (by decide +kernel), List.mem_of_getElem? (i := 1303) (by decide +kernel)⟩
theorem lw_p90 : lw_okq (⟨"WordTongue$Coder", "sign", "(II)I"⟩, 19) := ⟨⟨by decide +kernel, by decide +kernel⟩, List.mem_of_getElem? (i := 333) (by decide +kernel), List.mem_of_getElem? (i := 1306) (by decide +kernel), List.mem_of_getElem? (i := 1307) (by decide +kernel)⟩
theorem lw_p91 : lw_okq (⟨"WordTongue$Coder", "single", "(III)V"⟩, 19) := ⟨⟨by decide +kernel, by decide +kernel⟩, List.mem_of_getElem? (i := 333) (by decide +kernel), List.mem_of_getElem? (i := 1311) (by decide +kernel), List.mem_of_getElem? (i := 1312) (by decide +kernel)⟩
theorem lw_p92 : lw_okq (⟨"WordTongue$Coder", "name", "(III)V"⟩, 19) := ⟨⟨by decide +kernel, by decide +kernel⟩, List.mem_of_getElem? (i := 333) (by decide +kernel), List.mem_of_getElem? (i := 1315) (by decide +kernel), List.mem_of_getElem? (i := 1316) (by decide +kernel)⟩
theorem lw_p93 : lw_okq (⟨"WordTongue$Coder", "unary", "(I)V"⟩, 19) := ⟨⟨by decide +kernel, by decide +kernel⟩, List.mem_of_getElem? (i := 333) (by decide +kernel), List.mem_of_getElem? (i := 1319) (by decide +kernel), List.mem_of_getElem? (i := 1320) (by decide +kernel)⟩
theorem lw_p94 : lw_okq (⟨"WordTongue$Coder", "variables", "(I)V"⟩, 19) := ⟨⟨by decide +kernel, by decide +kernel⟩, List.mem_of_getElem? (i := 333) (by decide +kernel), List.mem_of_getElem? (i := 1327) (by decide +kernel), List.mem_of_getElem? (i := 1328) (by decide +kernel)⟩
theorem lw_p95 : lw_okq (⟨"WordTongue$Coder", "definitions", "(I)V"⟩, 19) := ⟨⟨by decide +kernel, by decide +kernel⟩, List.mem_of_getElem? (i := 333) (by decide +kernel), List.mem_of_getElem? (i := 1331) (by decide +kernel), List.mem_of_getElem? (i := 1332) (by decide +kernel)⟩
def lw_privs_6 : List (MethodName × Nat) := [(⟨"WordTongue$Coder", "conditional", "(I)V"⟩, 19), (⟨"WordTongue$Coder", "asking", "(I)V"⟩, 19), (⟨"WordTongue$Coder", "counting", "(I)V"⟩, 19), (⟨"WordTongue$Coder", "take", "(I)V"⟩, 19), (⟨"WordTongue$Coder", "switching", "(I)V"⟩, 19), (⟨"WordTongue$Coder", "telling", "(I)V"⟩, 19), (⟨"WordTongue$Coder", "leaving", "(I)V"⟩, 19), (⟨"WordTongue$Coder", "going", "(I)V"⟩, 19), (⟨"WordTongue$Coder", "choice", "(I)V"⟩, 19), (⟨"WordTongue$Coder", "table", "(I)V"⟩, 19), (⟨"WordTongue$Coder", "sign", "(II)I"⟩, 19), (⟨"WordTongue$Coder", "single", "(III)V"⟩, 19), (⟨"WordTongue$Coder", "name", "(III)V"⟩, 19), (⟨"WordTongue$Coder", "unary", "(I)V"⟩, 19), (⟨"WordTongue$Coder", "variables", "(I)V"⟩, 19), (⟨"WordTongue$Coder", "definitions", "(I)V"⟩, 19)]
theorem lw_r6 : ∀ q ∈ lw_privs_6, lw_okq q := List.forall_mem_cons.mpr ⟨lw_p80, List.forall_mem_cons.mpr ⟨lw_p81, List.forall_mem_cons.mpr ⟨lw_p82, List.forall_mem_cons.mpr ⟨lw_p83, List.forall_mem_cons.mpr ⟨lw_p84, List.forall_mem_cons.mpr ⟨lw_p85, List.forall_mem_cons.mpr ⟨lw_p86, List.forall_mem_cons.mpr ⟨lw_p87, List.forall_mem_cons.mpr ⟨lw_p88, List.forall_mem_cons.mpr ⟨lw_p89, List.forall_mem_cons.mpr ⟨lw_p90, List.forall_mem_cons.mpr ⟨lw_p91, List.forall_mem_cons.mpr ⟨lw_p92, List.forall_mem_cons.mpr ⟨lw_p93, List.forall_mem_cons.mpr ⟨lw_p94, List.forall_mem_cons.mpr ⟨lw_p95, fun _ h => absurd h List.not_mem_nil⟩⟩⟩⟩⟩⟩⟩⟩⟩⟩⟩⟩⟩⟩⟩⟩
theorem lw_p96 : lw_okq (⟨"WordTongue$Channels", "isInput", "(I)Z"⟩, 5) := ⟨⟨by decide +kernel, by decide +kernel⟩, List.mem_of_getElem? (i := 465) (by decide +kernel), List.mem_of_getElem? (i := 1381) (by decide +kernel), List.mem_of_getElem? (i := 1382) (by decide +kernel)⟩
theorem lw_p97 : lw_okq (⟨"WordTongue$Machine", "prepare", "()V"⟩, 16) := ⟨⟨by decide +kernel, by decide +kernel⟩, List.mem_of_getElem? (i := 490) (by decide +kernel), List.mem_of_getElem? (i := 1406) (by decide +kernel), List.mem_of_getElem? (i := 1407) (by decide +kernel)⟩
theorem lw_p98 : lw_okq (⟨"WordTongue$Machine", "put", "(II)V"⟩, 16) := ⟨⟨by decide +kernel, by decide +kernel⟩, List.mem_of_getElem? (i := 490) (by decide +kernel), List.mem_of_getElem? (i := 1423) (by decide +kernel), List.mem_of_getElem? (i := 1424) (by decide +kernel)⟩
theorem lw_p99 : lw_okq (⟨"WordTongue$Machine", "isThere", "(I)Z"⟩, 16) := ⟨⟨by decide +kernel, by decide +kernel⟩, List.mem_of_getElem? (i := 490) (by decide +kernel), List.mem_of_getElem? (i := 1427) (by decide +kernel), List.mem_of_getElem? (i := 1428) (by decide +kernel)⟩
theorem lw_p100 : lw_okq (⟨"WordTongue$Machine", "fail", "(I)V"⟩, 16) := ⟨⟨by decide +kernel, by decide +kernel⟩, List.mem_of_getElem? (i := 490) (by decide +kernel), List.mem_of_getElem? (i := 1431) (by decide +kernel), List.mem_of_getElem? (i := 1432) (by decide +kernel)⟩
theorem lw_p101 : lw_okq (⟨"WordTongue$Machine", "enter", "(III)V"⟩, 16) := ⟨⟨by decide +kernel, by decide +kernel⟩, List.mem_of_getElem? (i := 490) (by decide +kernel), List.mem_of_getElem? (i := 1450) (by decide +kernel), List.mem_of_getElem? (i := 1451) (by decide +kernel)⟩
theorem lw_p102 : lw_okq (⟨"WordTongue$Machine", "burns", "()Z"⟩, 16) := ⟨⟨by decide +kernel, by decide +kernel⟩, List.mem_of_getElem? (i := 490) (by decide +kernel), List.mem_of_getElem? (i := 1454) (by decide +kernel), List.mem_of_getElem? (i := 1455) (by decide +kernel)⟩
theorem lw_p103 : lw_okq (⟨"WordTongue$Machine", "argument", "(II)I"⟩, 16) := ⟨⟨by decide +kernel, by decide +kernel⟩, List.mem_of_getElem? (i := 490) (by decide +kernel), List.mem_of_getElem? (i := 1474) (by decide +kernel), List.mem_of_getElem? (i := 1475) (by decide +kernel)⟩
theorem lw_p104 : lw_okq (⟨"WordTongue$Machine", "step", "(II)V"⟩, 16) := ⟨⟨by decide +kernel, by decide +kernel⟩, List.mem_of_getElem? (i := 490) (by decide +kernel), List.mem_of_getElem? (i := 1489) (by decide +kernel), List.mem_of_getElem? (i := 1490) (by decide +kernel)⟩
theorem lw_p105 : lw_okq (⟨"WordTongue$Machine", "look", "(I)I"⟩, 16) := ⟨⟨by decide +kernel, by decide +kernel⟩, List.mem_of_getElem? (i := 490) (by decide +kernel), List.mem_of_getElem? (i := 1493) (by decide +kernel), List.mem_of_getElem? (i := 1494) (by decide +kernel)⟩
theorem lw_p106 : lw_okq (⟨"WordTongue$Machine", "lookByte", "()V"⟩, 16) := ⟨⟨by decide +kernel, by decide +kernel⟩, List.mem_of_getElem? (i := 490) (by decide +kernel), List.mem_of_getElem? (i := 1498) (by decide +kernel), List.mem_of_getElem? (i := 1499) (by decide +kernel)⟩
theorem lw_p107 : lw_okq (⟨"WordTongue$Machine", "wordOfByte", "(II)I"⟩, 16) := ⟨⟨by decide +kernel, by decide +kernel⟩, List.mem_of_getElem? (i := 490) (by decide +kernel), List.mem_of_getElem? (i := 1502) (by decide +kernel), List.mem_of_getElem? (i := 1503) (by decide +kernel)⟩
theorem lw_p108 : lw_okq (⟨"WordTongue$Machine", "putByte", "()V"⟩, 16) := ⟨⟨by decide +kernel, by decide +kernel⟩, List.mem_of_getElem? (i := 490) (by decide +kernel), List.mem_of_getElem? (i := 1506) (by decide +kernel), List.mem_of_getElem? (i := 1507) (by decide +kernel)⟩
theorem lw_p109 : lw_okq (⟨"WordTongue$Machine", "finish", "(II)V"⟩, 16) := ⟨⟨by decide +kernel, by decide +kernel⟩, List.mem_of_getElem? (i := 490) (by decide +kernel), List.mem_of_getElem? (i := 1510) (by decide +kernel), List.mem_of_getElem? (i := 1511) (by decide +kernel)⟩
theorem lw_p110 : lw_okq (⟨"WordTongue$Machine", "turn", "(II)V"⟩, 16) := ⟨⟨by decide +kernel, by decide +kernel⟩, List.mem_of_getElem? (i := 490) (by decide +kernel), List.mem_of_getElem? (i := 1514) (by decide +kernel), List.mem_of_getElem? (i := 1515) (by decide +kernel)⟩
theorem lw_p111 : lw_okq (⟨"WordTongue$Machine", "call", "(III)V"⟩, 16) := ⟨⟨by decide +kernel, by decide +kernel⟩, List.mem_of_getElem? (i := 490) (by decide +kernel), List.mem_of_getElem? (i := 1519) (by decide +kernel), List.mem_of_getElem? (i := 1520) (by decide +kernel)⟩
def lw_privs_7 : List (MethodName × Nat) := [(⟨"WordTongue$Channels", "isInput", "(I)Z"⟩, 5), (⟨"WordTongue$Machine", "prepare", "()V"⟩, 16), (⟨"WordTongue$Machine", "put", "(II)V"⟩, 16), (⟨"WordTongue$Machine", "isThere", "(I)Z"⟩, 16), (⟨"WordTongue$Machine", "fail", "(I)V"⟩, 16), (⟨"WordTongue$Machine", "enter", "(III)V"⟩, 16), (⟨"WordTongue$Machine", "burns", "()Z"⟩, 16), (⟨"WordTongue$Machine", "argument", "(II)I"⟩, 16), (⟨"WordTongue$Machine", "step", "(II)V"⟩, 16), (⟨"WordTongue$Machine", "look", "(I)I"⟩, 16), (⟨"WordTongue$Machine", "lookByte", "()V"⟩, 16), (⟨"WordTongue$Machine", "wordOfByte", "(II)I"⟩, 16), (⟨"WordTongue$Machine", "putByte", "()V"⟩, 16), (⟨"WordTongue$Machine", "finish", "(II)V"⟩, 16), (⟨"WordTongue$Machine", "turn", "(II)V"⟩, 16), (⟨"WordTongue$Machine", "call", "(III)V"⟩, 16)]
theorem lw_r7 : ∀ q ∈ lw_privs_7, lw_okq q := List.forall_mem_cons.mpr ⟨lw_p96, List.forall_mem_cons.mpr ⟨lw_p97, List.forall_mem_cons.mpr ⟨lw_p98, List.forall_mem_cons.mpr ⟨lw_p99, List.forall_mem_cons.mpr ⟨lw_p100, List.forall_mem_cons.mpr ⟨lw_p101, List.forall_mem_cons.mpr ⟨lw_p102, List.forall_mem_cons.mpr ⟨lw_p103, List.forall_mem_cons.mpr ⟨lw_p104, List.forall_mem_cons.mpr ⟨lw_p105, List.forall_mem_cons.mpr ⟨lw_p106, List.forall_mem_cons.mpr ⟨lw_p107, List.forall_mem_cons.mpr ⟨lw_p108, List.forall_mem_cons.mpr ⟨lw_p109, List.forall_mem_cons.mpr ⟨lw_p110, List.forall_mem_cons.mpr ⟨lw_p111, fun _ h => absurd h List.not_mem_nil⟩⟩⟩⟩⟩⟩⟩⟩⟩⟩⟩⟩⟩⟩⟩⟩
theorem lw_p112 : lw_okq (⟨"WordTongue$Machine", "apply", "(II)V"⟩, 16) := ⟨⟨by decide +kernel, by decide +kernel⟩, List.mem_of_getElem? (i := 490) (by decide +kernel), List.mem_of_getElem? (i := 1531) (by decide +kernel), List.mem_of_getElem? (i := 1532) (by decide +kernel)⟩
theorem lw_p113 : lw_okq (⟨"WordTongue$Machine", "back", "()V"⟩, 16) := ⟨⟨by decide +kernel, by decide +kernel⟩, List.mem_of_getElem? (i := 490) (by decide +kernel), List.mem_of_getElem? (i := 1536) (by decide +kernel), List.mem_of_getElem? (i := 1537) (by decide +kernel)⟩
theorem lw_p114 : lw_okq (⟨"WordTongue$Machine", "link", "(IIII)V"⟩, 16) := ⟨⟨by decide +kernel, by decide +kernel⟩, List.mem_of_getElem? (i := 490) (by decide +kernel), List.mem_of_getElem? (i := 1540) (by decide +kernel), List.mem_of_getElem? (i := 1541) (by decide +kernel)⟩
theorem lw_p115 : lw_okq (⟨"WordTongue$Machine", "work", "(III)V"⟩, 16) := ⟨⟨by decide +kernel, by decide +kernel⟩, List.mem_of_getElem? (i := 490) (by decide +kernel), List.mem_of_getElem? (i := 1545) (by decide +kernel), List.mem_of_getElem? (i := 1546) (by decide +kernel)⟩
theorem lw_p116 : lw_okq (⟨"WordTongue$Machine", "serve", "()V"⟩, 16) := ⟨⟨by decide +kernel, by decide +kernel⟩, List.mem_of_getElem? (i := 490) (by decide +kernel), List.mem_of_getElem? (i := 1552) (by decide +kernel), List.mem_of_getElem? (i := 1553) (by decide +kernel)⟩
theorem lw_p117 : lw_okq (⟨"WordTongue$Machine", "exchange", "(II)I"⟩, 16) := ⟨⟨by decide +kernel, by decide +kernel⟩, List.mem_of_getElem? (i := 490) (by decide +kernel), List.mem_of_getElem? (i := 1556) (by decide +kernel), List.mem_of_getElem? (i := 1557) (by decide +kernel)⟩
theorem lw_p118 : lw_okq (⟨"WordTongue$Channels", "isOutput", "(I)Z"⟩, 5) := ⟨⟨by decide +kernel, by decide +kernel⟩, List.mem_of_getElem? (i := 465) (by decide +kernel), List.mem_of_getElem? (i := 1573) (by decide +kernel), List.mem_of_getElem? (i := 1574) (by decide +kernel)⟩
theorem lw_p119 : lw_okq (⟨"WordTongue$Machine", "writeString", "(I)V"⟩, 16) := ⟨⟨by decide +kernel, by decide +kernel⟩, List.mem_of_getElem? (i := 490) (by decide +kernel), List.mem_of_getElem? (i := 1578) (by decide +kernel), List.mem_of_getElem? (i := 1579) (by decide +kernel)⟩
theorem lw_p120 : lw_okq (⟨"WordTongue$Channels", "next", "()I"⟩, 5) := ⟨⟨by decide +kernel, by decide +kernel⟩, List.mem_of_getElem? (i := 465) (by decide +kernel), List.mem_of_getElem? (i := 1587) (by decide +kernel), List.mem_of_getElem? (i := 1588) (by decide +kernel)⟩
theorem lw_p121 : lw_okq (⟨"WordTongue$Machine", "reckon", "(IIII)I"⟩, 16) := ⟨⟨by decide +kernel, by decide +kernel⟩, List.mem_of_getElem? (i := 490) (by decide +kernel), List.mem_of_getElem? (i := 1608) (by decide +kernel), List.mem_of_getElem? (i := 1609) (by decide +kernel)⟩
theorem lw_p122 : lw_okq (⟨"WordTongue$Heap", "touched", "(II)I"⟩, 2) := ⟨⟨by decide +kernel, by decide +kernel⟩, List.mem_of_getElem? (i := 496) (by decide +kernel), List.mem_of_getElem? (i := 1616) (by decide +kernel), List.mem_of_getElem? (i := 1617) (by decide +kernel)⟩
theorem lw_p123 : lw_okq (⟨"WordTongueModel", "scan", "()I"⟩, 119) := ⟨⟨by decide +kernel, by decide +kernel⟩, List.mem_of_getElem? (i := 1710) (by decide +kernel), List.mem_of_getElem? (i := 2091) (by decide +kernel), List.mem_of_getElem? (i := 2092) (by decide +kernel)⟩
theorem lw_p124 : lw_okq (⟨"WordTongueModel", "look", "(I)I"⟩, 119) := ⟨⟨by decide +kernel, by decide +kernel⟩, List.mem_of_getElem? (i := 1710) (by decide +kernel), List.mem_of_getElem? (i := 2095) (by decide +kernel), List.mem_of_getElem? (i := 2096) (by decide +kernel)⟩
theorem lw_p125 : lw_okq (⟨"WordTongueModel", "isPair", "(III)Z"⟩, 119) := ⟨⟨by decide +kernel, by decide +kernel⟩, List.mem_of_getElem? (i := 1710) (by decide +kernel), List.mem_of_getElem? (i := 2099) (by decide +kernel), List.mem_of_getElem? (i := 2100) (by decide +kernel)⟩
theorem lw_p126 : lw_okq (⟨"WordTongueModel", "one", "(II)I"⟩, 119) := ⟨⟨by decide +kernel, by decide +kernel⟩, List.mem_of_getElem? (i := 1710) (by decide +kernel), List.mem_of_getElem? (i := 2103) (by decide +kernel), List.mem_of_getElem? (i := 2104) (by decide +kernel)⟩
theorem lw_p127 : lw_okq (⟨"WordTongueModel", "keyword", "(II)I"⟩, 119) := ⟨⟨by decide +kernel, by decide +kernel⟩, List.mem_of_getElem? (i := 1710) (by decide +kernel), List.mem_of_getElem? (i := 2116) (by decide +kernel), List.mem_of_getElem? (i := 2117) (by decide +kernel)⟩
def lw_privs_8 : List (MethodName × Nat) := [(⟨"WordTongue$Machine", "apply", "(II)V"⟩, 16), (⟨"WordTongue$Machine", "back", "()V"⟩, 16), (⟨"WordTongue$Machine", "link", "(IIII)V"⟩, 16), (⟨"WordTongue$Machine", "work", "(III)V"⟩, 16), (⟨"WordTongue$Machine", "serve", "()V"⟩, 16), (⟨"WordTongue$Machine", "exchange", "(II)I"⟩, 16), (⟨"WordTongue$Channels", "isOutput", "(I)Z"⟩, 5), (⟨"WordTongue$Machine", "writeString", "(I)V"⟩, 16), (⟨"WordTongue$Channels", "next", "()I"⟩, 5), (⟨"WordTongue$Machine", "reckon", "(IIII)I"⟩, 16), (⟨"WordTongue$Heap", "touched", "(II)I"⟩, 2), (⟨"WordTongueModel", "scan", "()I"⟩, 119), (⟨"WordTongueModel", "look", "(I)I"⟩, 119), (⟨"WordTongueModel", "isPair", "(III)Z"⟩, 119), (⟨"WordTongueModel", "one", "(II)I"⟩, 119), (⟨"WordTongueModel", "keyword", "(II)I"⟩, 119)]
theorem lw_r8 : ∀ q ∈ lw_privs_8, lw_okq q := List.forall_mem_cons.mpr ⟨lw_p112, List.forall_mem_cons.mpr ⟨lw_p113, List.forall_mem_cons.mpr ⟨lw_p114, List.forall_mem_cons.mpr ⟨lw_p115, List.forall_mem_cons.mpr ⟨lw_p116, List.forall_mem_cons.mpr ⟨lw_p117, List.forall_mem_cons.mpr ⟨lw_p118, List.forall_mem_cons.mpr ⟨lw_p119, List.forall_mem_cons.mpr ⟨lw_p120, List.forall_mem_cons.mpr ⟨lw_p121, List.forall_mem_cons.mpr ⟨lw_p122, List.forall_mem_cons.mpr ⟨lw_p123, List.forall_mem_cons.mpr ⟨lw_p124, List.forall_mem_cons.mpr ⟨lw_p125, List.forall_mem_cons.mpr ⟨lw_p126, List.forall_mem_cons.mpr ⟨lw_p127, fun _ h => absurd h List.not_mem_nil⟩⟩⟩⟩⟩⟩⟩⟩⟩⟩⟩⟩⟩⟩⟩⟩
theorem lw_p128 : lw_okq (⟨"WordTongueModel", "isText", "(IIJJ)Z"⟩, 119) := ⟨⟨by decide +kernel, by decide +kernel⟩, List.mem_of_getElem? (i := 1710) (by decide +kernel), List.mem_of_getElem? (i := 2121) (by decide +kernel), List.mem_of_getElem? (i := 2122) (by decide +kernel)⟩
theorem lw_p129 : lw_okq (⟨"WordTongueModel", "nameOf", "(II)I"⟩, 119) := ⟨⟨by decide +kernel, by decide +kernel⟩, List.mem_of_getElem? (i := 1710) (by decide +kernel), List.mem_of_getElem? (i := 2168) (by decide +kernel), List.mem_of_getElem? (i := 2169) (by decide +kernel)⟩
theorem lw_p130 : lw_okq (⟨"WordTongueModel", "token", "(III)V"⟩, 119) := ⟨⟨by decide +kernel, by decide +kernel⟩, List.mem_of_getElem? (i := 1710) (by decide +kernel), List.mem_of_getElem? (i := 2172) (by decide +kernel), List.mem_of_getElem? (i := 2173) (by decide +kernel)⟩
theorem lw_p131 : lw_okq (⟨"WordTongueModel", "digits", "(II)I"⟩, 119) := ⟨⟨by decide +kernel, by decide +kernel⟩, List.mem_of_getElem? (i := 1710) (by decide +kernel), List.mem_of_getElem? (i := 2185) (by decide +kernel), List.mem_of_getElem? (i := 2186) (by decide +kernel)⟩
theorem lw_p132 : lw_okq (⟨"WordTongueModel", "oneC", "(II)I"⟩, 119) := ⟨⟨by decide +kernel, by decide +kernel⟩, List.mem_of_getElem? (i := 1710) (by decide +kernel), List.mem_of_getElem? (i := 2190) (by decide +kernel), List.mem_of_getElem? (i := 2191) (by decide +kernel)⟩
theorem lw_p133 : lw_okq (⟨"WordTongueModel", "stringAt", "(I)I"⟩, 119) := ⟨⟨by decide +kernel, by decide +kernel⟩, List.mem_of_getElem? (i := 1710) (by decide +kernel), List.mem_of_getElem? (i := 2194) (by decide +kernel), List.mem_of_getElem? (i := 2195) (by decide +kernel)⟩
theorem lw_p134 : lw_okq (⟨"WordTongueModel", "signAt", "(I)I"⟩, 119) := ⟨⟨by decide +kernel, by decide +kernel⟩, List.mem_of_getElem? (i := 1710) (by decide +kernel), List.mem_of_getElem? (i := 2198) (by decide +kernel), List.mem_of_getElem? (i := 2199) (by decide +kernel)⟩
theorem lw_p135 : lw_okq (⟨"WordTongueModel", "parse", "()Z"⟩, 119) := ⟨⟨by decide +kernel, by decide +kernel⟩, List.mem_of_getElem? (i := 1710) (by decide +kernel), List.mem_of_getElem? (i := 2202) (by decide +kernel), List.mem_of_getElem? (i := 2203) (by decide +kernel)⟩
theorem lw_p136 : lw_okq (⟨"WordTongueModel", "goal", "(IIII)V"⟩, 119) := ⟨⟨by decide +kernel, by decide +kernel⟩, List.mem_of_getElem? (i := 1710) (by decide +kernel), List.mem_of_getElem? (i := 2206) (by decide +kernel), List.mem_of_getElem? (i := 2207) (by decide +kernel)⟩
theorem lw_p137 : lw_okq (⟨"WordTongueModel", "reach", "(IIII)Z"⟩, 119) := ⟨⟨by decide +kernel, by decide +kernel⟩, List.mem_of_getElem? (i := 1710) (by decide +kernel), List.mem_of_getElem? (i := 2210) (by decide +kernel), List.mem_of_getElem? (i := 2211) (by decide +kernel)⟩
theorem lw_p138 : lw_okq (⟨"WordTongueModel", "reachE", "(IIII)Z"⟩, 119) := ⟨⟨by decide +kernel, by decide +kernel⟩, List.mem_of_getElem? (i := 1710) (by decide +kernel), List.mem_of_getElem? (i := 2214) (by decide +kernel), List.mem_of_getElem? (i := 2215) (by decide +kernel)⟩
theorem lw_p139 : lw_okq (⟨"WordTongueModel", "tk", "()I"⟩, 119) := ⟨⟨by decide +kernel, by decide +kernel⟩, List.mem_of_getElem? (i := 1710) (by decide +kernel), List.mem_of_getElem? (i := 2218) (by decide +kernel), List.mem_of_getElem? (i := 2219) (by decide +kernel)⟩
theorem lw_p140 : lw_okq (⟨"WordTongueModel", "deeper", "()Z"⟩, 119) := ⟨⟨by decide +kernel, by decide +kernel⟩, List.mem_of_getElem? (i := 1710) (by decide +kernel), List.mem_of_getElem? (i := 2222) (by decide +kernel), List.mem_of_getElem? (i := 2223) (by decide +kernel)⟩
theorem lw_p141 : lw_okq (⟨"WordTongueModel", "take", "(I)Z"⟩, 119) := ⟨⟨by decide +kernel, by decide +kernel⟩, List.mem_of_getElem? (i := 1710) (by decide +kernel), List.mem_of_getElem? (i := 2226) (by decide +kernel), List.mem_of_getElem? (i := 2227) (by decide +kernel)⟩
theorem lw_p142 : lw_okq (⟨"WordTongueModel", "shut", "(IIII)I"⟩, 119) := ⟨⟨by decide +kernel, by decide +kernel⟩, List.mem_of_getElem? (i := 1710) (by decide +kernel), List.mem_of_getElem? (i := 2230) (by decide +kernel), List.mem_of_getElem? (i := 2231) (by decide +kernel)⟩
theorem lw_p143 : lw_okq (⟨"WordTongueModel", "node", "(III)I"⟩, 119) := ⟨⟨by decide +kernel, by decide +kernel⟩, List.mem_of_getElem? (i := 1710) (by decide +kernel), List.mem_of_getElem? (i := 2234) (by decide +kernel), List.mem_of_getElem? (i := 2235) (by decide +kernel)⟩
def lw_privs_9 : List (MethodName × Nat) := [(⟨"WordTongueModel", "isText", "(IIJJ)Z"⟩, 119), (⟨"WordTongueModel", "nameOf", "(II)I"⟩, 119), (⟨"WordTongueModel", "token", "(III)V"⟩, 119), (⟨"WordTongueModel", "digits", "(II)I"⟩, 119), (⟨"WordTongueModel", "oneC", "(II)I"⟩, 119), (⟨"WordTongueModel", "stringAt", "(I)I"⟩, 119), (⟨"WordTongueModel", "signAt", "(I)I"⟩, 119), (⟨"WordTongueModel", "parse", "()Z"⟩, 119), (⟨"WordTongueModel", "goal", "(IIII)V"⟩, 119), (⟨"WordTongueModel", "reach", "(IIII)Z"⟩, 119), (⟨"WordTongueModel", "reachE", "(IIII)Z"⟩, 119), (⟨"WordTongueModel", "tk", "()I"⟩, 119), (⟨"WordTongueModel", "deeper", "()Z"⟩, 119), (⟨"WordTongueModel", "take", "(I)Z"⟩, 119), (⟨"WordTongueModel", "shut", "(IIII)I"⟩, 119), (⟨"WordTongueModel", "node", "(III)I"⟩, 119)]
theorem lw_r9 : ∀ q ∈ lw_privs_9, lw_okq q := List.forall_mem_cons.mpr ⟨lw_p128, List.forall_mem_cons.mpr ⟨lw_p129, List.forall_mem_cons.mpr ⟨lw_p130, List.forall_mem_cons.mpr ⟨lw_p131, List.forall_mem_cons.mpr ⟨lw_p132, List.forall_mem_cons.mpr ⟨lw_p133, List.forall_mem_cons.mpr ⟨lw_p134, List.forall_mem_cons.mpr ⟨lw_p135, List.forall_mem_cons.mpr ⟨lw_p136, List.forall_mem_cons.mpr ⟨lw_p137, List.forall_mem_cons.mpr ⟨lw_p138, List.forall_mem_cons.mpr ⟨lw_p139, List.forall_mem_cons.mpr ⟨lw_p140, List.forall_mem_cons.mpr ⟨lw_p141, List.forall_mem_cons.mpr ⟨lw_p142, List.forall_mem_cons.mpr ⟨lw_p143, fun _ h => absurd h List.not_mem_nil⟩⟩⟩⟩⟩⟩⟩⟩⟩⟩⟩⟩⟩⟩⟩⟩
theorem lw_p144 : lw_okq (⟨"WordTongueModel", "binary", "(III)V"⟩, 119) := ⟨⟨by decide +kernel, by decide +kernel⟩, List.mem_of_getElem? (i := 1710) (by decide +kernel), List.mem_of_getElem? (i := 2241) (by decide +kernel), List.mem_of_getElem? (i := 2242) (by decide +kernel)⟩
theorem lw_p145 : lw_okq (⟨"WordTongueModel", "calls", "(III)Z"⟩, 119) := ⟨⟨by decide +kernel, by decide +kernel⟩, List.mem_of_getElem? (i := 1710) (by decide +kernel), List.mem_of_getElem? (i := 2245) (by decide +kernel), List.mem_of_getElem? (i := 2246) (by decide +kernel)⟩
theorem lw_p146 : lw_okq (⟨"WordTongueModel", "primary", "(II)Z"⟩, 119) := ⟨⟨by decide +kernel, by decide +kernel⟩, List.mem_of_getElem? (i := 1710) (by decide +kernel), List.mem_of_getElem? (i := 2249) (by decide +kernel), List.mem_of_getElem? (i := 2250) (by decide +kernel)⟩
theorem lw_p147 : lw_okq (⟨"WordTongueModel", "leaf", "(III)V"⟩, 119) := ⟨⟨by decide +kernel, by decide +kernel⟩, List.mem_of_getElem? (i := 1710) (by decide +kernel), List.mem_of_getElem? (i := 2253) (by decide +kernel), List.mem_of_getElem? (i := 2254) (by decide +kernel)⟩
theorem lw_p148 : lw_okq (⟨"WordTongueModel", "openSection", "()Z"⟩, 119) := ⟨⟨by decide +kernel, by decide +kernel⟩, List.mem_of_getElem? (i := 1710) (by decide +kernel), List.mem_of_getElem? (i := 2257) (by decide +kernel), List.mem_of_getElem? (i := 2258) (by decide +kernel)⟩
theorem lw_p149 : lw_okq (⟨"WordTongueModel", "reachD", "(IIII)Z"⟩, 119) := ⟨⟨by decide +kernel, by decide +kernel⟩, List.mem_of_getElem? (i := 1710) (by decide +kernel), List.mem_of_getElem? (i := 2261) (by decide +kernel), List.mem_of_getElem? (i := 2262) (by decide +kernel)⟩
theorem lw_p150 : lw_okq (⟨"WordTongueModel", "shutSection", "()Z"⟩, 119) := ⟨⟨by decide +kernel, by decide +kernel⟩, List.mem_of_getElem? (i := 1710) (by decide +kernel), List.mem_of_getElem? (i := 2268) (by decide +kernel), List.mem_of_getElem? (i := 2269) (by decide +kernel)⟩
theorem lw_p151 : lw_okq (⟨"WordTongueModel", "reachP", "(I)Z"⟩, 119) := ⟨⟨by decide +kernel, by decide +kernel⟩, List.mem_of_getElem? (i := 1710) (by decide +kernel), List.mem_of_getElem? (i := 2272) (by decide +kernel), List.mem_of_getElem? (i := 2273) (by decide +kernel)⟩
theorem lw_p152 : lw_okq (⟨"WordTongueModel", "reachC", "(IIII)Z"⟩, 119) := ⟨⟨by decide +kernel, by decide +kernel⟩, List.mem_of_getElem? (i := 1710) (by decide +kernel), List.mem_of_getElem? (i := 2276) (by decide +kernel), List.mem_of_getElem? (i := 2277) (by decide +kernel)⟩
theorem lw_p153 : lw_okq (⟨"WordTongueModel", "command", "(III)Z"⟩, 119) := ⟨⟨by decide +kernel, by decide +kernel⟩, List.mem_of_getElem? (i := 1710) (by decide +kernel), List.mem_of_getElem? (i := 2280) (by decide +kernel), List.mem_of_getElem? (i := 2281) (by decide +kernel)⟩
theorem lw_p154 : lw_okq (⟨"WordTongueModel", "labels", "(I)V"⟩, 119) := ⟨⟨by decide +kernel, by decide +kernel⟩, List.mem_of_getElem? (i := 1710) (by decide +kernel), List.mem_of_getElem? (i := 2287) (by decide +kernel), List.mem_of_getElem? (i := 2288) (by decide +kernel)⟩
theorem lw_p155 : lw_okq (⟨"WordTongueModel", "tkNext", "()I"⟩, 119) := ⟨⟨by decide +kernel, by decide +kernel⟩, List.mem_of_getElem? (i := 1710) (by decide +kernel), List.mem_of_getElem? (i := 2291) (by decide +kernel), List.mem_of_getElem? (i := 2292) (by decide +kernel)⟩
theorem lw_p156 : lw_okq (⟨"WordTongueModel", "pairs", "(I)V"⟩, 119) := ⟨⟨by decide +kernel, by decide +kernel⟩, List.mem_of_getElem? (i := 1710) (by decide +kernel), List.mem_of_getElem? (i := 2295) (by decide +kernel), List.mem_of_getElem? (i := 2296) (by decide +kernel)⟩
theorem lw_p157 : lw_okq (⟨"WordTongueModel", "fault", "(II)V"⟩, 119) := ⟨⟨by decide +kernel, by decide +kernel⟩, List.mem_of_getElem? (i := 1710) (by decide +kernel), List.mem_of_getElem? (i := 2299) (by decide +kernel), List.mem_of_getElem? (i := 2300) (by decide +kernel)⟩
theorem lw_p158 : lw_okq (⟨"WordTongueModel", "check", "()V"⟩, 119) := ⟨⟨by decide +kernel, by decide +kernel⟩, List.mem_of_getElem? (i := 1710) (by decide +kernel), List.mem_of_getElem? (i := 2303) (by decide +kernel), List.mem_of_getElem? (i := 2304) (by decide +kernel)⟩
theorem lw_p159 : lw_okq (⟨"WordTongueModel", "library", "()V"⟩, 119) := ⟨⟨by decide +kernel, by decide +kernel⟩, List.mem_of_getElem? (i := 1710) (by decide +kernel), List.mem_of_getElem? (i := 2307) (by decide +kernel), List.mem_of_getElem? (i := 2308) (by decide +kernel)⟩
def lw_privs_10 : List (MethodName × Nat) := [(⟨"WordTongueModel", "binary", "(III)V"⟩, 119), (⟨"WordTongueModel", "calls", "(III)Z"⟩, 119), (⟨"WordTongueModel", "primary", "(II)Z"⟩, 119), (⟨"WordTongueModel", "leaf", "(III)V"⟩, 119), (⟨"WordTongueModel", "openSection", "()Z"⟩, 119), (⟨"WordTongueModel", "reachD", "(IIII)Z"⟩, 119), (⟨"WordTongueModel", "shutSection", "()Z"⟩, 119), (⟨"WordTongueModel", "reachP", "(I)Z"⟩, 119), (⟨"WordTongueModel", "reachC", "(IIII)Z"⟩, 119), (⟨"WordTongueModel", "command", "(III)Z"⟩, 119), (⟨"WordTongueModel", "labels", "(I)V"⟩, 119), (⟨"WordTongueModel", "tkNext", "()I"⟩, 119), (⟨"WordTongueModel", "pairs", "(I)V"⟩, 119), (⟨"WordTongueModel", "fault", "(II)V"⟩, 119), (⟨"WordTongueModel", "check", "()V"⟩, 119), (⟨"WordTongueModel", "library", "()V"⟩, 119)]
theorem lw_r10 : ∀ q ∈ lw_privs_10, lw_okq q := List.forall_mem_cons.mpr ⟨lw_p144, List.forall_mem_cons.mpr ⟨lw_p145, List.forall_mem_cons.mpr ⟨lw_p146, List.forall_mem_cons.mpr ⟨lw_p147, List.forall_mem_cons.mpr ⟨lw_p148, List.forall_mem_cons.mpr ⟨lw_p149, List.forall_mem_cons.mpr ⟨lw_p150, List.forall_mem_cons.mpr ⟨lw_p151, List.forall_mem_cons.mpr ⟨lw_p152, List.forall_mem_cons.mpr ⟨lw_p153, List.forall_mem_cons.mpr ⟨lw_p154, List.forall_mem_cons.mpr ⟨lw_p155, List.forall_mem_cons.mpr ⟨lw_p156, List.forall_mem_cons.mpr ⟨lw_p157, List.forall_mem_cons.mpr ⟨lw_p158, List.forall_mem_cons.mpr ⟨lw_p159, fun _ h => absurd h List.not_mem_nil⟩⟩⟩⟩⟩⟩⟩⟩⟩⟩⟩⟩⟩⟩⟩⟩
theorem lw_p160 : lw_okq (⟨"WordTongueModel", "lib", "(JJI)V"⟩, 119) := ⟨⟨by decide +kernel, by decide +kernel⟩, List.mem_of_getElem? (i := 1710) (by decide +kernel), List.mem_of_getElem? (i := 2312) (by decide +kernel), List.mem_of_getElem? (i := 2313) (by decide +kernel)⟩
theorem lw_p161 : lw_okq (⟨"WordTongueModel", "entry", "(IIIII)I"⟩, 119) := ⟨⟨by decide +kernel, by decide +kernel⟩, List.mem_of_getElem? (i := 1710) (by decide +kernel), List.mem_of_getElem? (i := 2317) (by decide +kernel), List.mem_of_getElem? (i := 2318) (by decide +kernel)⟩
theorem lw_p162 : lw_okq (⟨"WordTongueModel", "children", "(II)V"⟩, 119) := ⟨⟨by decide +kernel, by decide +kernel⟩, List.mem_of_getElem? (i := 1710) (by decide +kernel), List.mem_of_getElem? (i := 2341) (by decide +kernel), List.mem_of_getElem? (i := 2342) (by decide +kernel)⟩
theorem lw_p163 : lw_okq (⟨"WordTongueModel", "task", "(III)V"⟩, 119) := ⟨⟨by decide +kernel, by decide +kernel⟩, List.mem_of_getElem? (i := 1710) (by decide +kernel), List.mem_of_getElem? (i := 2345) (by decide +kernel), List.mem_of_getElem? (i := 2346) (by decide +kernel)⟩
theorem lw_p164 : lw_okq (⟨"WordTongueModel", "turn", "(I)V"⟩, 119) := ⟨⟨by decide +kernel, by decide +kernel⟩, List.mem_of_getElem? (i := 1710) (by decide +kernel), List.mem_of_getElem? (i := 2349) (by decide +kernel), List.mem_of_getElem? (i := 2350) (by decide +kernel)⟩
theorem lw_p165 : lw_okq (⟨"WordTongueModel", "go", "(III)V"⟩, 119) := ⟨⟨by decide +kernel, by decide +kernel⟩, List.mem_of_getElem? (i := 1710) (by decide +kernel), List.mem_of_getElem? (i := 2353) (by decide +kernel), List.mem_of_getElem? (i := 2354) (by decide +kernel)⟩
theorem lw_p166 : lw_okq (⟨"WordTongueModel", "declaration", "(I)V"⟩, 119) := ⟨⟨by decide +kernel, by decide +kernel⟩, List.mem_of_getElem? (i := 1710) (by decide +kernel), List.mem_of_getElem? (i := 2357) (by decide +kernel), List.mem_of_getElem? (i := 2358) (by decide +kernel)⟩
theorem lw_p167 : lw_okq (⟨"WordTongueModel", "letRoutines", "(I)V"⟩, 119) := ⟨⟨by decide +kernel, by decide +kernel⟩, List.mem_of_getElem? (i := 1710) (by decide +kernel), List.mem_of_getElem? (i := 2361) (by decide +kernel), List.mem_of_getElem? (i := 2362) (by decide +kernel)⟩
theorem lw_p168 : lw_okq (⟨"WordTongueModel", "nameToken", "(I)I"⟩, 119) := ⟨⟨by decide +kernel, by decide +kernel⟩, List.mem_of_getElem? (i := 1710) (by decide +kernel), List.mem_of_getElem? (i := 2365) (by decide +kernel), List.mem_of_getElem? (i := 2366) (by decide +kernel)⟩
theorem lw_p169 : lw_okq (⟨"WordTongueModel", "means", "(I)I"⟩, 119) := ⟨⟨by decide +kernel, by decide +kernel⟩, List.mem_of_getElem? (i := 1710) (by decide +kernel), List.mem_of_getElem? (i := 2369) (by decide +kernel), List.mem_of_getElem? (i := 2370) (by decide +kernel)⟩
theorem lw_p170 : lw_okq (⟨"WordTongueModel", "place", "(I)I"⟩, 119) := ⟨⟨by decide +kernel, by decide +kernel⟩, List.mem_of_getElem? (i := 1710) (by decide +kernel), List.mem_of_getElem? (i := 2373) (by decide +kernel), List.mem_of_getElem? (i := 2374) (by decide +kernel)⟩
theorem lw_p171 : lw_okq (⟨"WordTongueModel", "declare", "(IIIIII)I"⟩, 119) := ⟨⟨by decide +kernel, by decide +kernel⟩, List.mem_of_getElem? (i := 1710) (by decide +kernel), List.mem_of_getElem? (i := 2377) (by decide +kernel), List.mem_of_getElem? (i := 2378) (by decide +kernel)⟩
theorem lw_p172 : lw_okq (⟨"WordTongueModel", "tokenOfTwice", "(II)I"⟩, 119) := ⟨⟨by decide +kernel, by decide +kernel⟩, List.mem_of_getElem? (i := 1710) (by decide +kernel), List.mem_of_getElem? (i := 2381) (by decide +kernel), List.mem_of_getElem? (i := 2382) (by decide +kernel)⟩
theorem lw_p173 : lw_okq (⟨"WordTongueModel", "constant", "(I)V"⟩, 119) := ⟨⟨by decide +kernel, by decide +kernel⟩, List.mem_of_getElem? (i := 1710) (by decide +kernel), List.mem_of_getElem? (i := 2385) (by decide +kernel), List.mem_of_getElem? (i := 2386) (by decide +kernel)⟩
theorem lw_p174 : lw_okq (⟨"WordTongueModel", "isK", "(I)Z"⟩, 119) := ⟨⟨by decide +kernel, by decide +kernel⟩, List.mem_of_getElem? (i := 1710) (by decide +kernel), List.mem_of_getElem? (i := 2389) (by decide +kernel), List.mem_of_getElem? (i := 2390) (by decide +kernel)⟩
theorem lw_p175 : lw_okq (⟨"WordTongueModel", "isKName", "(I)Z"⟩, 119) := ⟨⟨by decide +kernel, by decide +kernel⟩, List.mem_of_getElem? (i := 1710) (by decide +kernel), List.mem_of_getElem? (i := 2393) (by decide +kernel), List.mem_of_getElem? (i := 2394) (by decide +kernel)⟩
def lw_privs_11 : List (MethodName × Nat) := [(⟨"WordTongueModel", "lib", "(JJI)V"⟩, 119), (⟨"WordTongueModel", "entry", "(IIIII)I"⟩, 119), (⟨"WordTongueModel", "children", "(II)V"⟩, 119), (⟨"WordTongueModel", "task", "(III)V"⟩, 119), (⟨"WordTongueModel", "turn", "(I)V"⟩, 119), (⟨"WordTongueModel", "go", "(III)V"⟩, 119), (⟨"WordTongueModel", "declaration", "(I)V"⟩, 119), (⟨"WordTongueModel", "letRoutines", "(I)V"⟩, 119), (⟨"WordTongueModel", "nameToken", "(I)I"⟩, 119), (⟨"WordTongueModel", "means", "(I)I"⟩, 119), (⟨"WordTongueModel", "place", "(I)I"⟩, 119), (⟨"WordTongueModel", "declare", "(IIIIII)I"⟩, 119), (⟨"WordTongueModel", "tokenOfTwice", "(II)I"⟩, 119), (⟨"WordTongueModel", "constant", "(I)V"⟩, 119), (⟨"WordTongueModel", "isK", "(I)Z"⟩, 119), (⟨"WordTongueModel", "isKName", "(I)Z"⟩, 119)]
theorem lw_r11 : ∀ q ∈ lw_privs_11, lw_okq q := List.forall_mem_cons.mpr ⟨lw_p160, List.forall_mem_cons.mpr ⟨lw_p161, List.forall_mem_cons.mpr ⟨lw_p162, List.forall_mem_cons.mpr ⟨lw_p163, List.forall_mem_cons.mpr ⟨lw_p164, List.forall_mem_cons.mpr ⟨lw_p165, List.forall_mem_cons.mpr ⟨lw_p166, List.forall_mem_cons.mpr ⟨lw_p167, List.forall_mem_cons.mpr ⟨lw_p168, List.forall_mem_cons.mpr ⟨lw_p169, List.forall_mem_cons.mpr ⟨lw_p170, List.forall_mem_cons.mpr ⟨lw_p171, List.forall_mem_cons.mpr ⟨lw_p172, List.forall_mem_cons.mpr ⟨lw_p173, List.forall_mem_cons.mpr ⟨lw_p174, List.forall_mem_cons.mpr ⟨lw_p175, fun _ h => absurd h List.not_mem_nil⟩⟩⟩⟩⟩⟩⟩⟩⟩⟩⟩⟩⟩⟩⟩⟩
theorem lw_p176 : lw_okq (⟨"WordTongueModel", "later", "(II)I"⟩, 119) := ⟨⟨by decide +kernel, by decide +kernel⟩, List.mem_of_getElem? (i := 1710) (by decide +kernel), List.mem_of_getElem? (i := 2397) (by decide +kernel), List.mem_of_getElem? (i := 2398) (by decide +kernel)⟩
theorem lw_p177 : lw_okq (⟨"WordTongueModel", "init", "(II)V"⟩, 119) := ⟨⟨by decide +kernel, by decide +kernel⟩, List.mem_of_getElem? (i := 1710) (by decide +kernel), List.mem_of_getElem? (i := 2419) (by decide +kernel), List.mem_of_getElem? (i := 2420) (by decide +kernel)⟩
theorem lw_p178 : lw_okq (⟨"WordTongueModel", "commandOf", "(I)V"⟩, 119) := ⟨⟨by decide +kernel, by decide +kernel⟩, List.mem_of_getElem? (i := 1710) (by decide +kernel), List.mem_of_getElem? (i := 2423) (by decide +kernel), List.mem_of_getElem? (i := 2424) (by decide +kernel)⟩
theorem lw_p179 : lw_okq (⟨"WordTongueModel", "beginBlock", "()V"⟩, 119) := ⟨⟨by decide +kernel, by decide +kernel⟩, List.mem_of_getElem? (i := 1710) (by decide +kernel), List.mem_of_getElem? (i := 2427) (by decide +kernel), List.mem_of_getElem? (i := 2428) (by decide +kernel)⟩
theorem lw_p180 : lw_okq (⟨"WordTongueModel", "put", "(I)V"⟩, 119) := ⟨⟨by decide +kernel, by decide +kernel⟩, List.mem_of_getElem? (i := 1710) (by decide +kernel), List.mem_of_getElem? (i := 2431) (by decide +kernel), List.mem_of_getElem? (i := 2432) (by decide +kernel)⟩
theorem lw_p181 : lw_okq (⟨"WordTongueModel", "labelsOf", "(I)V"⟩, 119) := ⟨⟨by decide +kernel, by decide +kernel⟩, List.mem_of_getElem? (i := 1710) (by decide +kernel), List.mem_of_getElem? (i := 2435) (by decide +kernel), List.mem_of_getElem? (i := 2436) (by decide +kernel)⟩
theorem lw_p182 : lw_okq (⟨"WordTongueModel", "goesTo", "(I)V"⟩, 119) := ⟨⟨by decide +kernel, by decide +kernel⟩, List.mem_of_getElem? (i := 1710) (by decide +kernel), List.mem_of_getElem? (i := 2439) (by decide +kernel), List.mem_of_getElem? (i := 2440) (by decide +kernel)⟩
theorem lw_p183 : lw_okq (⟨"WordTongueModel", "expressionOf", "(I)V"⟩, 119) := ⟨⟨by decide +kernel, by decide +kernel⟩, List.mem_of_getElem? (i := 1710) (by decide +kernel), List.mem_of_getElem? (i := 2443) (by decide +kernel), List.mem_of_getElem? (i := 2444) (by decide +kernel)⟩
theorem lw_p184 : lw_okq (⟨"WordTongueModel", "named", "(I)I"⟩, 119) := ⟨⟨by decide +kernel, by decide +kernel⟩, List.mem_of_getElem? (i := 1710) (by decide +kernel), List.mem_of_getElem? (i := 2447) (by decide +kernel), List.mem_of_getElem? (i := 2448) (by decide +kernel)⟩
theorem lw_p185 : lw_okq (⟨"WordTongueModel", "string", "(I)V"⟩, 119) := ⟨⟨by decide +kernel, by decide +kernel⟩, List.mem_of_getElem? (i := 1710) (by decide +kernel), List.mem_of_getElem? (i := 2451) (by decide +kernel), List.mem_of_getElem? (i := 2452) (by decide +kernel)⟩
theorem lw_p186 : lw_okq (⟨"WordTongueModel", "placeOf", "(IZ)V"⟩, 119) := ⟨⟨by decide +kernel, by decide +kernel⟩, List.mem_of_getElem? (i := 1710) (by decide +kernel), List.mem_of_getElem? (i := 2455) (by decide +kernel), List.mem_of_getElem? (i := 2456) (by decide +kernel)⟩
theorem lw_p187 : lw_okq (⟨"WordTongueModel", "routineOf", "(II)V"⟩, 119) := ⟨⟨by decide +kernel, by decide +kernel⟩, List.mem_of_getElem? (i := 1710) (by decide +kernel), List.mem_of_getElem? (i := 2459) (by decide +kernel), List.mem_of_getElem? (i := 2460) (by decide +kernel)⟩
theorem lw_p188 : lw_okq (⟨"WordTongueModel", "routineEnds", "(I)V"⟩, 119) := ⟨⟨by decide +kernel, by decide +kernel⟩, List.mem_of_getElem? (i := 1710) (by decide +kernel), List.mem_of_getElem? (i := 2464) (by decide +kernel), List.mem_of_getElem? (i := 2465) (by decide +kernel)⟩
theorem lw_p189 : lw_okq (⟨"WordTongueModel", "pull", "()I"⟩, 119) := ⟨⟨by decide +kernel, by decide +kernel⟩, List.mem_of_getElem? (i := 1710) (by decide +kernel), List.mem_of_getElem? (i := 2468) (by decide +kernel), List.mem_of_getElem? (i := 2469) (by decide +kernel)⟩
theorem lw_p190 : lw_okq (⟨"WordTongueModel", "varsEnd", "(I)V"⟩, 119) := ⟨⟨by decide +kernel, by decide +kernel⟩, List.mem_of_getElem? (i := 1710) (by decide +kernel), List.mem_of_getElem? (i := 2472) (by decide +kernel), List.mem_of_getElem? (i := 2473) (by decide +kernel)⟩
theorem lw_p191 : lw_okq (⟨"WordTongueModel", "uses", "(I)V"⟩, 119) := ⟨⟨by decide +kernel, by decide +kernel⟩, List.mem_of_getElem? (i := 1710) (by decide +kernel), List.mem_of_getElem? (i := 2476) (by decide +kernel), List.mem_of_getElem? (i := 2477) (by decide +kernel)⟩
def lw_privs_12 : List (MethodName × Nat) := [(⟨"WordTongueModel", "later", "(II)I"⟩, 119), (⟨"WordTongueModel", "init", "(II)V"⟩, 119), (⟨"WordTongueModel", "commandOf", "(I)V"⟩, 119), (⟨"WordTongueModel", "beginBlock", "()V"⟩, 119), (⟨"WordTongueModel", "put", "(I)V"⟩, 119), (⟨"WordTongueModel", "labelsOf", "(I)V"⟩, 119), (⟨"WordTongueModel", "goesTo", "(I)V"⟩, 119), (⟨"WordTongueModel", "expressionOf", "(I)V"⟩, 119), (⟨"WordTongueModel", "named", "(I)I"⟩, 119), (⟨"WordTongueModel", "string", "(I)V"⟩, 119), (⟨"WordTongueModel", "placeOf", "(IZ)V"⟩, 119), (⟨"WordTongueModel", "routineOf", "(II)V"⟩, 119), (⟨"WordTongueModel", "routineEnds", "(I)V"⟩, 119), (⟨"WordTongueModel", "pull", "()I"⟩, 119), (⟨"WordTongueModel", "varsEnd", "(I)V"⟩, 119), (⟨"WordTongueModel", "uses", "(I)V"⟩, 119)]
theorem lw_r12 : ∀ q ∈ lw_privs_12, lw_okq q := List.forall_mem_cons.mpr ⟨lw_p176, List.forall_mem_cons.mpr ⟨lw_p177, List.forall_mem_cons.mpr ⟨lw_p178, List.forall_mem_cons.mpr ⟨lw_p179, List.forall_mem_cons.mpr ⟨lw_p180, List.forall_mem_cons.mpr ⟨lw_p181, List.forall_mem_cons.mpr ⟨lw_p182, List.forall_mem_cons.mpr ⟨lw_p183, List.forall_mem_cons.mpr ⟨lw_p184, List.forall_mem_cons.mpr ⟨lw_p185, List.forall_mem_cons.mpr ⟨lw_p186, List.forall_mem_cons.mpr ⟨lw_p187, List.forall_mem_cons.mpr ⟨lw_p188, List.forall_mem_cons.mpr ⟨lw_p189, List.forall_mem_cons.mpr ⟨lw_p190, List.forall_mem_cons.mpr ⟨lw_p191, fun _ h => absurd h List.not_mem_nil⟩⟩⟩⟩⟩⟩⟩⟩⟩⟩⟩⟩⟩⟩⟩⟩
theorem lw_p192 : lw_okq (⟨"WordTongueModel", "blockEnds", "(I)V"⟩, 119) := ⟨⟨by decide +kernel, by decide +kernel⟩, List.mem_of_getElem? (i := 1710) (by decide +kernel), List.mem_of_getElem? (i := 2481) (by decide +kernel), List.mem_of_getElem? (i := 2482) (by decide +kernel)⟩
theorem lw_p193 : lw_okq (⟨"WordTongueModel", "forName", "(I)V"⟩, 119) := ⟨⟨by decide +kernel, by decide +kernel⟩, List.mem_of_getElem? (i := 1710) (by decide +kernel), List.mem_of_getElem? (i := 2485) (by decide +kernel), List.mem_of_getElem? (i := 2486) (by decide +kernel)⟩
theorem lw_p194 : lw_okq (⟨"WordTongueModel", "switchOf", "(I)V"⟩, 119) := ⟨⟨by decide +kernel, by decide +kernel⟩, List.mem_of_getElem? (i := 1710) (by decide +kernel), List.mem_of_getElem? (i := 2489) (by decide +kernel), List.mem_of_getElem? (i := 2490) (by decide +kernel)⟩
theorem lw_p195 : lw_okq (⟨"WordTongueModel", "isTwice", "(II)Z"⟩, 119) := ⟨⟨by decide +kernel, by decide +kernel⟩, List.mem_of_getElem? (i := 1710) (by decide +kernel), List.mem_of_getElem? (i := 2493) (by decide +kernel), List.mem_of_getElem? (i := 2494) (by decide +kernel)⟩
theorem lw_p196 : lw_okq (⟨"WordTongueModel", "part", "(I)V"⟩, 119) := ⟨⟨by decide +kernel, by decide +kernel⟩, List.mem_of_getElem? (i := 1710) (by decide +kernel), List.mem_of_getElem? (i := 2497) (by decide +kernel), List.mem_of_getElem? (i := 2498) (by decide +kernel)⟩
theorem lw_p197 : lw_okq (⟨"WordTongueModel", "rowsOf", "(I)V"⟩, 119) := ⟨⟨by decide +kernel, by decide +kernel⟩, List.mem_of_getElem? (i := 1710) (by decide +kernel), List.mem_of_getElem? (i := 2514) (by decide +kernel), List.mem_of_getElem? (i := 2515) (by decide +kernel)⟩
theorem lw_p198 : lw_okq (⟨"WordTongueModel", "enter", "(III)V"⟩, 119) := ⟨⟨by decide +kernel, by decide +kernel⟩, List.mem_of_getElem? (i := 1710) (by decide +kernel), List.mem_of_getElem? (i := 2526) (by decide +kernel), List.mem_of_getElem? (i := 2527) (by decide +kernel)⟩
theorem lw_p199 : lw_okq (⟨"WordTongueModel", "burns", "()Z"⟩, 119) := ⟨⟨by decide +kernel, by decide +kernel⟩, List.mem_of_getElem? (i := 1710) (by decide +kernel), List.mem_of_getElem? (i := 2530) (by decide +kernel), List.mem_of_getElem? (i := 2531) (by decide +kernel)⟩
theorem lw_p200 : lw_okq (⟨"WordTongueModel", "err", "(I)V"⟩, 119) := ⟨⟨by decide +kernel, by decide +kernel⟩, List.mem_of_getElem? (i := 1710) (by decide +kernel), List.mem_of_getElem? (i := 2534) (by decide +kernel), List.mem_of_getElem? (i := 2535) (by decide +kernel)⟩
theorem lw_p201 : lw_okq (⟨"WordTongueModel", "limit", "()I"⟩, 119) := ⟨⟨by decide +kernel, by decide +kernel⟩, List.mem_of_getElem? (i := 1710) (by decide +kernel), List.mem_of_getElem? (i := 2538) (by decide +kernel), List.mem_of_getElem? (i := 2539) (by decide +kernel)⟩
theorem lw_p202 : lw_okq (⟨"WordTongueModel", "todoTask", "(III)V"⟩, 119) := ⟨⟨by decide +kernel, by decide +kernel⟩, List.mem_of_getElem? (i := 1710) (by decide +kernel), List.mem_of_getElem? (i := 2542) (by decide +kernel), List.mem_of_getElem? (i := 2543) (by decide +kernel)⟩
theorem lw_p203 : lw_okq (⟨"WordTongueModel", "doNext", "()V"⟩, 119) := ⟨⟨by decide +kernel, by decide +kernel⟩, List.mem_of_getElem? (i := 1710) (by decide +kernel), List.mem_of_getElem? (i := 2549) (by decide +kernel), List.mem_of_getElem? (i := 2550) (by decide +kernel)⟩
theorem lw_p204 : lw_okq (⟨"WordTongueModel", "evaluate", "(I)V"⟩, 119) := ⟨⟨by decide +kernel, by decide +kernel⟩, List.mem_of_getElem? (i := 1710) (by decide +kernel), List.mem_of_getElem? (i := 2553) (by decide +kernel), List.mem_of_getElem? (i := 2554) (by decide +kernel)⟩
theorem lw_p205 : lw_okq (⟨"WordTongueModel", "push", "(I)V"⟩, 119) := ⟨⟨by decide +kernel, by decide +kernel⟩, List.mem_of_getElem? (i := 1710) (by decide +kernel), List.mem_of_getElem? (i := 2557) (by decide +kernel), List.mem_of_getElem? (i := 2558) (by decide +kernel)⟩
theorem lw_p206 : lw_okq (⟨"WordTongueModel", "wordOf", "(I)I"⟩, 119) := ⟨⟨by decide +kernel, by decide +kernel⟩, List.mem_of_getElem? (i := 1710) (by decide +kernel), List.mem_of_getElem? (i := 2561) (by decide +kernel), List.mem_of_getElem? (i := 2562) (by decide +kernel)⟩
theorem lw_p207 : lw_okq (⟨"WordTongueModel", "address", "(I)V"⟩, 119) := ⟨⟨by decide +kernel, by decide +kernel⟩, List.mem_of_getElem? (i := 1710) (by decide +kernel), List.mem_of_getElem? (i := 2565) (by decide +kernel), List.mem_of_getElem? (i := 2566) (by decide +kernel)⟩
def lw_privs_13 : List (MethodName × Nat) := [(⟨"WordTongueModel", "blockEnds", "(I)V"⟩, 119), (⟨"WordTongueModel", "forName", "(I)V"⟩, 119), (⟨"WordTongueModel", "switchOf", "(I)V"⟩, 119), (⟨"WordTongueModel", "isTwice", "(II)Z"⟩, 119), (⟨"WordTongueModel", "part", "(I)V"⟩, 119), (⟨"WordTongueModel", "rowsOf", "(I)V"⟩, 119), (⟨"WordTongueModel", "enter", "(III)V"⟩, 119), (⟨"WordTongueModel", "burns", "()Z"⟩, 119), (⟨"WordTongueModel", "err", "(I)V"⟩, 119), (⟨"WordTongueModel", "limit", "()I"⟩, 119), (⟨"WordTongueModel", "todoTask", "(III)V"⟩, 119), (⟨"WordTongueModel", "doNext", "()V"⟩, 119), (⟨"WordTongueModel", "evaluate", "(I)V"⟩, 119), (⟨"WordTongueModel", "push", "(I)V"⟩, 119), (⟨"WordTongueModel", "wordOf", "(I)I"⟩, 119), (⟨"WordTongueModel", "address", "(I)V"⟩, 119)]
theorem lw_r13 : ∀ q ∈ lw_privs_13, lw_okq q := List.forall_mem_cons.mpr ⟨lw_p192, List.forall_mem_cons.mpr ⟨lw_p193, List.forall_mem_cons.mpr ⟨lw_p194, List.forall_mem_cons.mpr ⟨lw_p195, List.forall_mem_cons.mpr ⟨lw_p196, List.forall_mem_cons.mpr ⟨lw_p197, List.forall_mem_cons.mpr ⟨lw_p198, List.forall_mem_cons.mpr ⟨lw_p199, List.forall_mem_cons.mpr ⟨lw_p200, List.forall_mem_cons.mpr ⟨lw_p201, List.forall_mem_cons.mpr ⟨lw_p202, List.forall_mem_cons.mpr ⟨lw_p203, List.forall_mem_cons.mpr ⟨lw_p204, List.forall_mem_cons.mpr ⟨lw_p205, List.forall_mem_cons.mpr ⟨lw_p206, List.forall_mem_cons.mpr ⟨lw_p207, fun _ h => absurd h List.not_mem_nil⟩⟩⟩⟩⟩⟩⟩⟩⟩⟩⟩⟩⟩⟩⟩⟩
theorem lw_p208 : lw_okq (⟨"WordTongueModel", "turnTodo", "(I)V"⟩, 119) := ⟨⟨by decide +kernel, by decide +kernel⟩, List.mem_of_getElem? (i := 1710) (by decide +kernel), List.mem_of_getElem? (i := 2569) (by decide +kernel), List.mem_of_getElem? (i := 2570) (by decide +kernel)⟩
theorem lw_p209 : lw_okq (⟨"WordTongueModel", "bin", "(I)V"⟩, 119) := ⟨⟨by decide +kernel, by decide +kernel⟩, List.mem_of_getElem? (i := 1710) (by decide +kernel), List.mem_of_getElem? (i := 2573) (by decide +kernel), List.mem_of_getElem? (i := 2574) (by decide +kernel)⟩
theorem lw_p210 : lw_okq (⟨"WordTongueModel", "pop", "()I"⟩, 119) := ⟨⟨by decide +kernel, by decide +kernel⟩, List.mem_of_getElem? (i := 1710) (by decide +kernel), List.mem_of_getElem? (i := 2577) (by decide +kernel), List.mem_of_getElem? (i := 2578) (by decide +kernel)⟩
theorem lw_p211 : lw_okq (⟨"WordTongueModel", "read", "(J)I"⟩, 119) := ⟨⟨by decide +kernel, by decide +kernel⟩, List.mem_of_getElem? (i := 1710) (by decide +kernel), List.mem_of_getElem? (i := 2581) (by decide +kernel), List.mem_of_getElem? (i := 2582) (by decide +kernel)⟩
theorem lw_p212 : lw_okq (⟨"WordTongueModel", "rel", "(II)V"⟩, 119) := ⟨⟨by decide +kernel, by decide +kernel⟩, List.mem_of_getElem? (i := 1710) (by decide +kernel), List.mem_of_getElem? (i := 2585) (by decide +kernel), List.mem_of_getElem? (i := 2586) (by decide +kernel)⟩
theorem lw_p213 : lw_okq (⟨"WordTongueModel", "call", "(II)V"⟩, 119) := ⟨⟨by decide +kernel, by decide +kernel⟩, List.mem_of_getElem? (i := 1710) (by decide +kernel), List.mem_of_getElem? (i := 2589) (by decide +kernel), List.mem_of_getElem? (i := 2590) (by decide +kernel)⟩
theorem lw_p214 : lw_okq (⟨"WordTongueModel", "libraryCall", "(III)V"⟩, 119) := ⟨⟨by decide +kernel, by decide +kernel⟩, List.mem_of_getElem? (i := 1710) (by decide +kernel), List.mem_of_getElem? (i := 2594) (by decide +kernel), List.mem_of_getElem? (i := 2595) (by decide +kernel)⟩
theorem lw_p215 : lw_okq (⟨"WordTongueModel", "arg", "(II)I"⟩, 119) := ⟨⟨by decide +kernel, by decide +kernel⟩, List.mem_of_getElem? (i := 1710) (by decide +kernel), List.mem_of_getElem? (i := 2598) (by decide +kernel), List.mem_of_getElem? (i := 2599) (by decide +kernel)⟩
theorem lw_p216 : lw_okq (⟨"WordTongueModel", "decimal", "(II)V"⟩, 119) := ⟨⟨by decide +kernel, by decide +kernel⟩, List.mem_of_getElem? (i := 1710) (by decide +kernel), List.mem_of_getElem? (i := 2602) (by decide +kernel), List.mem_of_getElem? (i := 2603) (by decide +kernel)⟩
theorem lw_p217 : lw_okq (⟨"WordTongueModel", "outByte", "(I)V"⟩, 119) := ⟨⟨by decide +kernel, by decide +kernel⟩, List.mem_of_getElem? (i := 1710) (by decide +kernel), List.mem_of_getElem? (i := 2608) (by decide +kernel), List.mem_of_getElem? (i := 2609) (by decide +kernel)⟩
theorem lw_p218 : lw_okq (⟨"WordTongueModel", "writeString", "(I)V"⟩, 119) := ⟨⟨by decide +kernel, by decide +kernel⟩, List.mem_of_getElem? (i := 1710) (by decide +kernel), List.mem_of_getElem? (i := 2612) (by decide +kernel), List.mem_of_getElem? (i := 2613) (by decide +kernel)⟩
theorem lw_p219 : lw_okq (⟨"WordTongueModel", "nextByte", "()I"⟩, 119) := ⟨⟨by decide +kernel, by decide +kernel⟩, List.mem_of_getElem? (i := 1710) (by decide +kernel), List.mem_of_getElem? (i := 2616) (by decide +kernel), List.mem_of_getElem? (i := 2617) (by decide +kernel)⟩
theorem lw_p220 : lw_okq (⟨"WordTongueModel", "getVector", "(I)I"⟩, 119) := ⟨⟨by decide +kernel, by decide +kernel⟩, List.mem_of_getElem? (i := 1710) (by decide +kernel), List.mem_of_getElem? (i := 2620) (by decide +kernel), List.mem_of_getElem? (i := 2621) (by decide +kernel)⟩
theorem lw_p221 : lw_okq (⟨"WordTongueModel", "layVector", "(IJJI)I"⟩, 119) := ⟨⟨by decide +kernel, by decide +kernel⟩, List.mem_of_getElem? (i := 1710) (by decide +kernel), List.mem_of_getElem? (i := 2624) (by decide +kernel), List.mem_of_getElem? (i := 2625) (by decide +kernel)⟩
theorem lw_p222 : lw_okq (⟨"WordTongueModel", "freeVector", "(I)V"⟩, 119) := ⟨⟨by decide +kernel, by decide +kernel⟩, List.mem_of_getElem? (i := 1710) (by decide +kernel), List.mem_of_getElem? (i := 2628) (by decide +kernel), List.mem_of_getElem? (i := 2629) (by decide +kernel)⟩
theorem lw_p223 : lw_okq (⟨"WordTongueModel", "readNumber", "()I"⟩, 119) := ⟨⟨by decide +kernel, by decide +kernel⟩, List.mem_of_getElem? (i := 1710) (by decide +kernel), List.mem_of_getElem? (i := 2632) (by decide +kernel), List.mem_of_getElem? (i := 2633) (by decide +kernel)⟩
def lw_privs_14 : List (MethodName × Nat) := [(⟨"WordTongueModel", "turnTodo", "(I)V"⟩, 119), (⟨"WordTongueModel", "bin", "(I)V"⟩, 119), (⟨"WordTongueModel", "pop", "()I"⟩, 119), (⟨"WordTongueModel", "read", "(J)I"⟩, 119), (⟨"WordTongueModel", "rel", "(II)V"⟩, 119), (⟨"WordTongueModel", "call", "(II)V"⟩, 119), (⟨"WordTongueModel", "libraryCall", "(III)V"⟩, 119), (⟨"WordTongueModel", "arg", "(II)I"⟩, 119), (⟨"WordTongueModel", "decimal", "(II)V"⟩, 119), (⟨"WordTongueModel", "outByte", "(I)V"⟩, 119), (⟨"WordTongueModel", "writeString", "(I)V"⟩, 119), (⟨"WordTongueModel", "nextByte", "()I"⟩, 119), (⟨"WordTongueModel", "getVector", "(I)I"⟩, 119), (⟨"WordTongueModel", "layVector", "(IJJI)I"⟩, 119), (⟨"WordTongueModel", "freeVector", "(I)V"⟩, 119), (⟨"WordTongueModel", "readNumber", "()I"⟩, 119)]
theorem lw_r14 : ∀ q ∈ lw_privs_14, lw_okq q := List.forall_mem_cons.mpr ⟨lw_p208, List.forall_mem_cons.mpr ⟨lw_p209, List.forall_mem_cons.mpr ⟨lw_p210, List.forall_mem_cons.mpr ⟨lw_p211, List.forall_mem_cons.mpr ⟨lw_p212, List.forall_mem_cons.mpr ⟨lw_p213, List.forall_mem_cons.mpr ⟨lw_p214, List.forall_mem_cons.mpr ⟨lw_p215, List.forall_mem_cons.mpr ⟨lw_p216, List.forall_mem_cons.mpr ⟨lw_p217, List.forall_mem_cons.mpr ⟨lw_p218, List.forall_mem_cons.mpr ⟨lw_p219, List.forall_mem_cons.mpr ⟨lw_p220, List.forall_mem_cons.mpr ⟨lw_p221, List.forall_mem_cons.mpr ⟨lw_p222, List.forall_mem_cons.mpr ⟨lw_p223, fun _ h => absurd h List.not_mem_nil⟩⟩⟩⟩⟩⟩⟩⟩⟩⟩⟩⟩⟩⟩⟩⟩
theorem lw_p224 : lw_okq (⟨"WordTongueModel", "peek", "()I"⟩, 119) := ⟨⟨by decide +kernel, by decide +kernel⟩, List.mem_of_getElem? (i := 1710) (by decide +kernel), List.mem_of_getElem? (i := 2636) (by decide +kernel), List.mem_of_getElem? (i := 2637) (by decide +kernel)⟩
theorem lw_p225 : lw_okq (⟨"WordTongueModel", "toVector", "(III)V"⟩, 119) := ⟨⟨by decide +kernel, by decide +kernel⟩, List.mem_of_getElem? (i := 1710) (by decide +kernel), List.mem_of_getElem? (i := 2640) (by decide +kernel), List.mem_of_getElem? (i := 2641) (by decide +kernel)⟩
theorem lw_p226 : lw_okq (⟨"WordTongueModel", "perform", "(I)V"⟩, 119) := ⟨⟨by decide +kernel, by decide +kernel⟩, List.mem_of_getElem? (i := 1710) (by decide +kernel), List.mem_of_getElem? (i := 2644) (by decide +kernel), List.mem_of_getElem? (i := 2645) (by decide +kernel)⟩
theorem lw_p227 : lw_okq (⟨"WordTongueModel", "assign", "(II)V"⟩, 119) := ⟨⟨by decide +kernel, by decide +kernel⟩, List.mem_of_getElem? (i := 1710) (by decide +kernel), List.mem_of_getElem? (i := 2648) (by decide +kernel), List.mem_of_getElem? (i := 2649) (by decide +kernel)⟩
theorem lw_p228 : lw_okq (⟨"WordTongueModel", "stores", "(I)V"⟩, 119) := ⟨⟨by decide +kernel, by decide +kernel⟩, List.mem_of_getElem? (i := 1710) (by decide +kernel), List.mem_of_getElem? (i := 2652) (by decide +kernel), List.mem_of_getElem? (i := 2653) (by decide +kernel)⟩
theorem lw_p229 : lw_okq (⟨"WordTongueModel", "write", "(JI)V"⟩, 119) := ⟨⟨by decide +kernel, by decide +kernel⟩, List.mem_of_getElem? (i := 1710) (by decide +kernel), List.mem_of_getElem? (i := 2656) (by decide +kernel), List.mem_of_getElem? (i := 2657) (by decide +kernel)⟩
theorem lw_p230 : lw_okq (⟨"WordTongueModel", "loop", "(II)V"⟩, 119) := ⟨⟨by decide +kernel, by decide +kernel⟩, List.mem_of_getElem? (i := 1710) (by decide +kernel), List.mem_of_getElem? (i := 2660) (by decide +kernel), List.mem_of_getElem? (i := 2661) (by decide +kernel)⟩
theorem lw_p231 : lw_okq (⟨"WordTongueModel", "isStep", "(III)Z"⟩, 119) := ⟨⟨by decide +kernel, by decide +kernel⟩, List.mem_of_getElem? (i := 1710) (by decide +kernel), List.mem_of_getElem? (i := 2664) (by decide +kernel), List.mem_of_getElem? (i := 2665) (by decide +kernel)⟩
theorem lw_p232 : lw_okq (⟨"WordTongueModel", "asked", "(I)V"⟩, 119) := ⟨⟨by decide +kernel, by decide +kernel⟩, List.mem_of_getElem? (i := 1710) (by decide +kernel), List.mem_of_getElem? (i := 2668) (by decide +kernel), List.mem_of_getElem? (i := 2669) (by decide +kernel)⟩
theorem lw_p233 : lw_okq (⟨"WordTongueModel", "section", "(II)V"⟩, 119) := ⟨⟨by decide +kernel, by decide +kernel⟩, List.mem_of_getElem? (i := 1710) (by decide +kernel), List.mem_of_getElem? (i := 2672) (by decide +kernel), List.mem_of_getElem? (i := 2673) (by decide +kernel)⟩
theorem lw_p234 : lw_okq (⟨"WordTongueModel", "returns", "(II)V"⟩, 119) := ⟨⟨by decide +kernel, by decide +kernel⟩, List.mem_of_getElem? (i := 1710) (by decide +kernel), List.mem_of_getElem? (i := 2676) (by decide +kernel), List.mem_of_getElem? (i := 2677) (by decide +kernel)⟩
theorem lw_p235 : lw_okq (⟨"WordTongueModel", "variables", "(I)V"⟩, 119) := ⟨⟨by decide +kernel, by decide +kernel⟩, List.mem_of_getElem? (i := 1710) (by decide +kernel), List.mem_of_getElem? (i := 2680) (by decide +kernel), List.mem_of_getElem? (i := 2681) (by decide +kernel)⟩
theorem lw_p236 : lw_okq (⟨"WordTongueModel", "choose", "(I)V"⟩, 119) := ⟨⟨by decide +kernel, by decide +kernel⟩, List.mem_of_getElem? (i := 1710) (by decide +kernel), List.mem_of_getElem? (i := 2684) (by decide +kernel), List.mem_of_getElem? (i := 2685) (by decide +kernel)⟩
def lw_privs_15 : List (MethodName × Nat) := [(⟨"WordTongueModel", "peek", "()I"⟩, 119), (⟨"WordTongueModel", "toVector", "(III)V"⟩, 119), (⟨"WordTongueModel", "perform", "(I)V"⟩, 119), (⟨"WordTongueModel", "assign", "(II)V"⟩, 119), (⟨"WordTongueModel", "stores", "(I)V"⟩, 119), (⟨"WordTongueModel", "write", "(JI)V"⟩, 119), (⟨"WordTongueModel", "loop", "(II)V"⟩, 119), (⟨"WordTongueModel", "isStep", "(III)Z"⟩, 119), (⟨"WordTongueModel", "asked", "(I)V"⟩, 119), (⟨"WordTongueModel", "section", "(II)V"⟩, 119), (⟨"WordTongueModel", "returns", "(II)V"⟩, 119), (⟨"WordTongueModel", "variables", "(I)V"⟩, 119), (⟨"WordTongueModel", "choose", "(I)V"⟩, 119)]
theorem lw_r15 : ∀ q ∈ lw_privs_15, lw_okq q := List.forall_mem_cons.mpr ⟨lw_p224, List.forall_mem_cons.mpr ⟨lw_p225, List.forall_mem_cons.mpr ⟨lw_p226, List.forall_mem_cons.mpr ⟨lw_p227, List.forall_mem_cons.mpr ⟨lw_p228, List.forall_mem_cons.mpr ⟨lw_p229, List.forall_mem_cons.mpr ⟨lw_p230, List.forall_mem_cons.mpr ⟨lw_p231, List.forall_mem_cons.mpr ⟨lw_p232, List.forall_mem_cons.mpr ⟨lw_p233, List.forall_mem_cons.mpr ⟨lw_p234, List.forall_mem_cons.mpr ⟨lw_p235, List.forall_mem_cons.mpr ⟨lw_p236, fun _ h => absurd h List.not_mem_nil⟩⟩⟩⟩⟩⟩⟩⟩⟩⟩⟩⟩⟩
def lw_privs : List (MethodName × Nat) := lw_privs_1 ++ (lw_privs_2 ++ (lw_privs_3 ++ (lw_privs_4 ++ (lw_privs_5 ++ (lw_privs_6 ++ (lw_privs_7 ++ (lw_privs_8 ++ (lw_privs_9 ++ (lw_privs_10 ++ (lw_privs_11 ++ (lw_privs_12 ++ (lw_privs_13 ++ (lw_privs_14 ++ (lw_privs_15))))))))))))))
def lw_tbl : List Cond := k2_sels lw_privs ++ tables_1
theorem lw_privs_ok : ∀ q ∈ lw_privs, lw_okq q := by
  show ∀ q ∈ lw_privs_1 ++ (lw_privs_2 ++ (lw_privs_3 ++ (lw_privs_4 ++ (lw_privs_5 ++ (lw_privs_6 ++ (lw_privs_7 ++ (lw_privs_8 ++ (lw_privs_9 ++ (lw_privs_10 ++ (lw_privs_11 ++ (lw_privs_12 ++ (lw_privs_13 ++ (lw_privs_14 ++ (lw_privs_15)))))))))))))), lw_okq q
  exact List.forall_mem_append.mpr ⟨lw_r1, List.forall_mem_append.mpr ⟨lw_r2, List.forall_mem_append.mpr ⟨lw_r3, List.forall_mem_append.mpr ⟨lw_r4, List.forall_mem_append.mpr ⟨lw_r5, List.forall_mem_append.mpr ⟨lw_r6, List.forall_mem_append.mpr ⟨lw_r7, List.forall_mem_append.mpr ⟨lw_r8, List.forall_mem_append.mpr ⟨lw_r9, List.forall_mem_append.mpr ⟨lw_r10, List.forall_mem_append.mpr ⟨lw_r11, List.forall_mem_append.mpr ⟨lw_r12, List.forall_mem_append.mpr ⟨lw_r13, List.forall_mem_append.mpr ⟨lw_r14, lw_r15⟩⟩⟩⟩⟩⟩⟩⟩⟩⟩⟩⟩⟩⟩
-- pasted: names of claim/NAMES.whole.lean.txt (no word lists, no worlds, no decode rows)
def RX0 : String := "WordTongue$Channels"
def TX0 : u_T := fun k => match k with
  | 0 => ("WordTongue$Channels", "inputs", "[LWordTongue$Ints;", true)
  | 1 => ("WordTongue$Channels", "positions", "[I", true)
  | 2 => ("WordTongue$Channels", "outputs", "[LWordTongue$Ints;", true)
  | 3 => ("WordTongue$Channels", "inHand", "I", false)
  | _ => ("WordTongue$Channels", "outHand", "I", false)
def tyX0 : Nat → FieldType := fun k => match k with
  | 0 => .array (.object "WordTongue$Ints")
  | 1 => .array .int
  | 2 => .array (.object "WordTongue$Ints")
  | 3 => .int
  | _ => .int
abbrev wsX00 : List Cond := u_ws RX0 TX0 5
theorem nmX0 : ∀ a, a < 5 → ∀ b, b < 5 → a ≠ b → (TX0 a).2.1 ≠ (TX0 b).2.1 := by decide +kernel
theorem tyX0_ok : ∀ k, k < 5 → parseFieldDescriptor (TX0 k).2.2.1 = some (tyX0 k) := by decide +kernel
abbrev cX0_init : ByteArray := prog_2_method_1_code
def yX0_init : MethodName := ⟨RX0, "<init>", "()V"⟩
abbrev cX0_isInput : ByteArray := prog_2_method_2_code
def yX0_isInput : MethodName := ⟨RX0, "isInput", "(I)Z"⟩
abbrev cX0_isOutput : ByteArray := prog_2_method_3_code
def yX0_isOutput : MethodName := ⟨RX0, "isOutput", "(I)Z"⟩
abbrev cX0_take : ByteArray := prog_2_method_4_code
def yX0_take : MethodName := ⟨RX0, "take", "(ILWordTongue$Ints;)I"⟩
abbrev cX0_length : ByteArray := prog_2_method_5_code
def yX0_length : MethodName := ⟨RX0, "length", "(I)I"⟩
abbrev cX0_byteAt : ByteArray := prog_2_method_6_code
def yX0_byteAt : MethodName := ⟨RX0, "byteAt", "(II)I"⟩
abbrev cX0_beginRun : ByteArray := prog_2_method_7_code
def yX0_beginRun : MethodName := ⟨RX0, "beginRun", "()V"⟩
abbrev cX0_selectInput : ByteArray := prog_2_method_8_code
def yX0_selectInput : MethodName := ⟨RX0, "selectInput", "(I)Z"⟩
abbrev cX0_selectOutput : ByteArray := prog_2_method_9_code
def yX0_selectOutput : MethodName := ⟨RX0, "selectOutput", "(I)Z"⟩
abbrev cX0_rewind : ByteArray := prog_2_method_10_code
def yX0_rewind : MethodName := ⟨RX0, "rewind", "()V"⟩
abbrev cX0_next : ByteArray := prog_2_method_11_code
def yX0_next : MethodName := ⟨RX0, "next", "()I"⟩
abbrev cX0_read : ByteArray := prog_2_method_12_code
def yX0_read : MethodName := ⟨RX0, "read", "()I"⟩
abbrev cX0_unread : ByteArray := prog_2_method_13_code
def yX0_unread : MethodName := ⟨RX0, "unread", "()Z"⟩
abbrev cX0_readNumber : ByteArray := prog_2_method_14_code
def yX0_readNumber : MethodName := ⟨RX0, "readNumber", "()I"⟩
abbrev cX0_isBlank : ByteArray := prog_2_method_15_code
def yX0_isBlank : MethodName := ⟨RX0, "isBlank", "(I)Z"⟩
abbrev cX0_write : ByteArray := prog_2_method_16_code
def yX0_write : MethodName := ⟨RX0, "write", "(I)V"⟩
abbrev cX0_writeNumber : ByteArray := prog_2_method_17_code
def yX0_writeNumber : MethodName := ⟨RX0, "writeNumber", "(II)V"⟩
abbrev cX0_writeHex : ByteArray := prog_2_method_18_code
def yX0_writeHex : MethodName := ⟨RX0, "writeHex", "(II)V"⟩
def RX1 : String := "WordTongue$Coder"
def TX1 : u_T := fun k => match k with
  | 0 => ("WordTongue$Coder", "tree", "LWordTongue$Tree;", true)
  | 1 => ("WordTongue$Coder", "program", "LWordTongue$Program;", true)
  | 2 => ("WordTongue$Coder", "scope", "LWordTongue$Scope;", true)
  | 3 => ("WordTongue$Coder", "constants", "LWordTongue$Constants;", true)
  | 4 => ("WordTongue$Coder", "labels", "LWordTongue$Ints;", true)
  | 5 => ("WordTongue$Coder", "gotos", "LWordTongue$Ints;", true)
  | 6 => ("WordTongue$Coder", "cases", "LWordTongue$Ints;", true)
  | 7 => ("WordTongue$Coder", "breaks", "I", false)
  | 8 => ("WordTongue$Coder", "loops", "I", false)
  | 9 => ("WordTongue$Coder", "endcases", "I", false)
  | 10 => ("WordTongue$Coder", "results", "I", false)
  | 11 => ("WordTongue$Coder", "caseBase", "I", false)
  | 12 => ("WordTongue$Coder", "fallback", "I", false)
  | 13 => ("WordTongue$Coder", "used", "I", false)
  | 14 => ("WordTongue$Coder", "most", "I", false)
  | 15 => ("WordTongue$Coder", "routine", "I", false)
  | 16 => ("WordTongue$Coder", "area", "I", false)
  | 17 => ("WordTongue$Coder", "areas", "I", false)
  | _ => ("WordTongue$Coder", "isFunction", "Z", false)
def tyX1 : Nat → FieldType := fun k => match k with
  | 0 => .object "WordTongue$Tree"
  | 1 => .object "WordTongue$Program"
  | 2 => .object "WordTongue$Scope"
  | 3 => .object "WordTongue$Constants"
  | 4 => .object "WordTongue$Ints"
  | 5 => .object "WordTongue$Ints"
  | 6 => .object "WordTongue$Ints"
  | 7 => .int
  | 8 => .int
  | 9 => .int
  | 10 => .int
  | 11 => .int
  | 12 => .int
  | 13 => .int
  | 14 => .int
  | 15 => .int
  | 16 => .int
  | 17 => .int
  | _ => .boolean
abbrev wsX10 : List Cond := u_ws RX1 TX1 19
theorem nmX1 : ∀ a, a < 19 → ∀ b, b < 19 → a ≠ b → (TX1 a).2.1 ≠ (TX1 b).2.1 := by decide +kernel
theorem tyX1_ok : ∀ k, k < 19 → parseFieldDescriptor (TX1 k).2.2.1 = some (tyX1 k) := by decide +kernel
abbrev cX1_init : ByteArray := prog_3_method_1_code
def yX1_init : MethodName := ⟨RX1, "<init>", "(LWordTongue$Tree;LWordTongue$Program;)V"⟩
abbrev cX1_translate : ByteArray := prog_3_method_2_code
def yX1_translate : MethodName := ⟨RX1, "translate", "(I)V"⟩
abbrev cX1_leaveAll : ByteArray := prog_3_method_3_code
def yX1_leaveAll : MethodName := ⟨RX1, "leaveAll", "()V"⟩
abbrev cX1_emit : ByteArray := prog_3_method_4_code
def yX1_emit : MethodName := ⟨RX1, "emit", "(II)I"⟩
abbrev cX1_definitions : ByteArray := prog_3_method_5_code
def yX1_definitions : MethodName := ⟨RX1, "definitions", "(I)V"⟩
abbrev cX1_routines : ByteArray := prog_3_method_6_code
def yX1_routines : MethodName := ⟨RX1, "routines", "(I)V"⟩
abbrev cX1_routineName : ByteArray := prog_3_method_7_code
def yX1_routineName : MethodName := ⟨RX1, "routineName", "(I)V"⟩
abbrev cX1_routine : ByteArray := prog_3_method_8_code
def yX1_routine : MethodName := ⟨RX1, "routine", "(I)V"⟩
abbrev cX1_parameters : ByteArray := prog_3_method_9_code
def yX1_parameters : MethodName := ⟨RX1, "parameters", "(I)I"⟩
abbrev cX1_take : ByteArray := prog_3_method_10_code
def yX1_take : MethodName := ⟨RX1, "take", "(I)V"⟩
abbrev cX1_variables : ByteArray := prog_3_method_11_code
def yX1_variables : MethodName := ⟨RX1, "variables", "(I)V"⟩
abbrev cX1_section : ByteArray := prog_3_method_12_code
def yX1_section : MethodName := ⟨RX1, "section", "(I)V"⟩
abbrev cX1_entrance : ByteArray := prog_3_method_13_code
def yX1_entrance : MethodName := ⟨RX1, "entrance", "(I)V"⟩
abbrev cX1_command : ByteArray := prog_3_method_14_code
def yX1_command : MethodName := ⟨RX1, "command", "(I)V"⟩
abbrev cX1_assignment : ByteArray := prog_3_method_15_code
def yX1_assignment : MethodName := ⟨RX1, "assignment", "(I)V"⟩
abbrev cX1_isByte : ByteArray := prog_3_method_16_code
def yX1_isByte : MethodName := ⟨RX1, "isByte", "(I)Z"⟩
abbrev cX1_conditional : ByteArray := prog_3_method_17_code
def yX1_conditional : MethodName := ⟨RX1, "conditional", "(I)V"⟩
abbrev cX1_asking : ByteArray := prog_3_method_18_code
def yX1_asking : MethodName := ⟨RX1, "asking", "(I)V"⟩
abbrev cX1_repeats : ByteArray := prog_3_method_19_code
def yX1_repeats : MethodName := ⟨RX1, "repeats", "(I)V"⟩
abbrev cX1_counting : ByteArray := prog_3_method_20_code
def yX1_counting : MethodName := ⟨RX1, "counting", "(I)V"⟩
abbrev cX1_switching : ByteArray := prog_3_method_21_code
def yX1_switching : MethodName := ⟨RX1, "switching", "(I)V"⟩
abbrev cX1_telling : ByteArray := prog_3_method_22_code
def yX1_telling : MethodName := ⟨RX1, "telling", "(I)V"⟩
abbrev cX1_leaving : ByteArray := prog_3_method_23_code
def yX1_leaving : MethodName := ⟨RX1, "leaving", "(I)V"⟩
abbrev cX1_going : ByteArray := prog_3_method_24_code
def yX1_going : MethodName := ⟨RX1, "going", "(I)V"⟩
abbrev cX1_expression : ByteArray := prog_3_method_25_code
def yX1_expression : MethodName := ⟨RX1, "expression", "(III)V"⟩
abbrev cX1_unfit : ByteArray := prog_3_method_26_code
def yX1_unfit : MethodName := ⟨RX1, "unfit", "(II)V"⟩
abbrev cX1_calls : ByteArray := prog_3_method_27_code
def yX1_calls : MethodName := ⟨RX1, "calls", "(I)V"⟩
abbrev cX1_arguments : ByteArray := prog_3_method_28_code
def yX1_arguments : MethodName := ⟨RX1, "arguments", "(II)V"⟩
abbrev cX1_valof : ByteArray := prog_3_method_29_code
def yX1_valof : MethodName := ⟨RX1, "valof", "(I)V"⟩
abbrev cX1_choice : ByteArray := prog_3_method_30_code
def yX1_choice : MethodName := ⟨RX1, "choice", "(I)V"⟩
abbrev cX1_sign : ByteArray := prog_3_method_31_code
def yX1_sign : MethodName := ⟨RX1, "sign", "(II)I"⟩
abbrev cX1_single : ByteArray := prog_3_method_32_code
def yX1_single : MethodName := ⟨RX1, "single", "(III)V"⟩
abbrev cX1_unary : ByteArray := prog_3_method_33_code
def yX1_unary : MethodName := ⟨RX1, "unary", "(I)V"⟩
abbrev cX1_table : ByteArray := prog_3_method_34_code
def yX1_table : MethodName := ⟨RX1, "table", "(I)V"⟩
abbrev cX1_name : ByteArray := prog_3_method_35_code
def yX1_name : MethodName := ⟨RX1, "name", "(III)V"⟩
def RX2 : String := "WordTongue$Constants"
def TX2 : u_T := fun k => match k with
  | 0 => ("WordTongue$Constants", "tree", "LWordTongue$Tree;", true)
  | 1 => ("WordTongue$Constants", "program", "LWordTongue$Program;", true)
  | 2 => ("WordTongue$Constants", "scope", "LWordTongue$Scope;", true)
  | 3 => ("WordTongue$Constants", "stack", "LWordTongue$Ints;", true)
  | 4 => ("WordTongue$Constants", "failed", "Z", false)
  | 5 => ("WordTongue$Constants", "faultKind", "I", false)
  | _ => ("WordTongue$Constants", "faultPlace", "I", false)
def tyX2 : Nat → FieldType := fun k => match k with
  | 0 => .object "WordTongue$Tree"
  | 1 => .object "WordTongue$Program"
  | 2 => .object "WordTongue$Scope"
  | 3 => .object "WordTongue$Ints"
  | 4 => .boolean
  | 5 => .int
  | _ => .int
abbrev wsX20 : List Cond := u_ws RX2 TX2 7
theorem nmX2 : ∀ a, a < 7 → ∀ b, b < 7 → a ≠ b → (TX2 a).2.1 ≠ (TX2 b).2.1 := by decide +kernel
theorem tyX2_ok : ∀ k, k < 7 → parseFieldDescriptor (TX2 k).2.2.1 = some (tyX2 k) := by decide +kernel
abbrev cX2_init : ByteArray := prog_4_method_1_code
def yX2_init : MethodName := ⟨RX2, "<init>", "(LWordTongue$Tree;LWordTongue$Program;LWordTongue$Scope;)V"⟩
abbrev cX2_hasFailed : ByteArray := prog_4_method_2_code
def yX2_hasFailed : MethodName := ⟨RX2, "hasFailed", "()Z"⟩
abbrev cX2_number : ByteArray := prog_4_method_3_code
def yX2_number : MethodName := ⟨RX2, "number", "(II)I"⟩
abbrev cX2_fail : ByteArray := prog_4_method_4_code
def yX2_fail : MethodName := ⟨RX2, "fail", "(II)V"⟩
abbrev cX2_reckon : ByteArray := prog_4_method_5_code
def yX2_reckon : MethodName := ⟨RX2, "reckon", "(IZ)I"⟩
abbrev cX2_relate : ByteArray := prog_4_method_6_code
def yX2_relate : MethodName := ⟨RX2, "relate", "(IZZ)Z"⟩
abbrev cX2_work : ByteArray := prog_4_method_7_code
def yX2_work : MethodName := ⟨RX2, "work", "(IZI)V"⟩
abbrev cX2_choose : ByteArray := prog_4_method_8_code
def yX2_choose : MethodName := ⟨RX2, "choose", "(IZ)I"⟩
abbrev cX2_single : ByteArray := prog_4_method_9_code
def yX2_single : MethodName := ⟨RX2, "single", "(III)V"⟩
def RX3 : String := "WordTongue$Heap"
def TX3 : u_T := fun k => match k with
  | 0 => ("WordTongue$Heap", "starts", "LWordTongue$Ints;", true)
  | _ => ("WordTongue$Heap", "lengths", "LWordTongue$Ints;", true)
def tyX3 : Nat → FieldType := fun k => match k with
  | 0 => .object "WordTongue$Ints"
  | _ => .object "WordTongue$Ints"
abbrev wsX30 : List Cond := u_ws RX3 TX3 2
theorem nmX3 : ∀ a, a < 2 → ∀ b, b < 2 → a ≠ b → (TX3 a).2.1 ≠ (TX3 b).2.1 := by decide +kernel
theorem tyX3_ok : ∀ k, k < 2 → parseFieldDescriptor (TX3 k).2.2.1 = some (tyX3 k) := by decide +kernel
abbrev cX3_init : ByteArray := prog_5_method_1_code
def yX3_init : MethodName := ⟨RX3, "<init>", "()V"⟩
abbrev cX3_clear : ByteArray := prog_5_method_2_code
def yX3_clear : MethodName := ⟨RX3, "clear", "()V"⟩
abbrev cX3_get : ByteArray := prog_5_method_3_code
def yX3_get : MethodName := ⟨RX3, "get", "(III)I"⟩
abbrev cX3_touched : ByteArray := prog_5_method_4_code
def yX3_touched : MethodName := ⟨RX3, "touched", "(II)I"⟩
abbrev cX3_free : ByteArray := prog_5_method_5_code
def yX3_free : MethodName := ⟨RX3, "free", "(I)Z"⟩
abbrev cX3_limit : ByteArray := prog_5_method_6_code
def yX3_limit : MethodName := ⟨RX3, "limit", "(I)I"⟩
def RX4 : String := "WordTongue$Ints"
def TX4 : u_T := fun k => match k with
  | 0 => ("WordTongue$Ints", "most", "I", true)
  | 1 => ("WordTongue$Ints", "cells", "[I", false)
  | _ => ("WordTongue$Ints", "size", "I", false)
def tyX4 : Nat → FieldType := fun k => match k with
  | 0 => .int
  | 1 => .array .int
  | _ => .int
abbrev wsX40 : List Cond := u_ws RX4 TX4 3
theorem nmX4 : ∀ a, a < 3 → ∀ b, b < 3 → a ≠ b → (TX4 a).2.1 ≠ (TX4 b).2.1 := by decide +kernel
theorem tyX4_ok : ∀ k, k < 3 → parseFieldDescriptor (TX4 k).2.2.1 = some (tyX4 k) := by decide +kernel
abbrev cX4_init : ByteArray := prog_6_method_1_code
def yX4_init : MethodName := ⟨RX4, "<init>", "(I)V"⟩
abbrev cX4_size : ByteArray := prog_6_method_2_code
def yX4_size : MethodName := ⟨RX4, "size", "()I"⟩
abbrev cX4_get : ByteArray := prog_6_method_3_code
def yX4_get : MethodName := ⟨RX4, "get", "(I)I"⟩
abbrev cX4_set : ByteArray := prog_6_method_4_code
def yX4_set : MethodName := ⟨RX4, "set", "(II)V"⟩
abbrev cX4_add : ByteArray := prog_6_method_5_code
def yX4_add : MethodName := ⟨RX4, "add", "(I)V"⟩
abbrev cX4_top : ByteArray := prog_6_method_6_code
def yX4_top : MethodName := ⟨RX4, "top", "()I"⟩
abbrev cX4_pop : ByteArray := prog_6_method_7_code
def yX4_pop : MethodName := ⟨RX4, "pop", "()I"⟩
abbrev cX4_cut : ByteArray := prog_6_method_8_code
def yX4_cut : MethodName := ⟨RX4, "cut", "(I)V"⟩
abbrev cX4_copyFrom : ByteArray := prog_6_method_9_code
def yX4_copyFrom : MethodName := ⟨RX4, "copyFrom", "(LWordTongue$Ints;)V"⟩
def RX5 : String := "WordTongue$Machine"
def TX5 : u_T := fun k => match k with
  | 0 => ("WordTongue$Machine", "program", "LWordTongue$Program;", true)
  | 1 => ("WordTongue$Machine", "channels", "LWordTongue$Channels;", true)
  | 2 => ("WordTongue$Machine", "heap", "LWordTongue$Heap;", true)
  | 3 => ("WordTongue$Machine", "stack", "LWordTongue$Ints;", true)
  | 4 => ("WordTongue$Machine", "calls", "LWordTongue$Ints;", true)
  | 5 => ("WordTongue$Machine", "cells", "[I", false)
  | 6 => ("WordTongue$Machine", "words", "I", false)
  | 7 => ("WordTongue$Machine", "at", "I", false)
  | 8 => ("WordTongue$Machine", "base", "I", false)
  | 9 => ("WordTongue$Machine", "routine", "I", false)
  | 10 => ("WordTongue$Machine", "rest", "I", false)
  | 11 => ("WordTongue$Machine", "answer", "I", false)
  | 12 => ("WordTongue$Machine", "error", "I", false)
  | 13 => ("WordTongue$Machine", "over", "Z", false)
  | 14 => ("WordTongue$Machine", "service", "I", false)
  | _ => ("WordTongue$Machine", "given", "I", false)
def tyX5 : Nat → FieldType := fun k => match k with
  | 0 => .object "WordTongue$Program"
  | 1 => .object "WordTongue$Channels"
  | 2 => .object "WordTongue$Heap"
  | 3 => .object "WordTongue$Ints"
  | 4 => .object "WordTongue$Ints"
  | 5 => .array .int
  | 6 => .int
  | 7 => .int
  | 8 => .int
  | 9 => .int
  | 10 => .int
  | 11 => .int
  | 12 => .int
  | 13 => .boolean
  | 14 => .int
  | _ => .int
abbrev wsX50 : List Cond := u_ws RX5 TX5 16
theorem nmX5 : ∀ a, a < 16 → ∀ b, b < 16 → a ≠ b → (TX5 a).2.1 ≠ (TX5 b).2.1 := by decide +kernel
theorem tyX5_ok : ∀ k, k < 16 → parseFieldDescriptor (TX5 k).2.2.1 = some (tyX5 k) := by decide +kernel
abbrev cX5_init : ByteArray := prog_7_method_1_code
def yX5_init : MethodName := ⟨RX5, "<init>", "(LWordTongue$Program;LWordTongue$Channels;)V"⟩
abbrev cX5_told : ByteArray := prog_7_method_2_code
def yX5_told : MethodName := ⟨RX5, "told", "()I"⟩
abbrev cX5_fuelLeft : ByteArray := prog_7_method_3_code
def yX5_fuelLeft : MethodName := ⟨RX5, "fuelLeft", "()I"⟩
abbrev cX5_left : ByteArray := prog_7_method_4_code
def yX5_left : MethodName := ⟨RX5, "left", "(I)I"⟩
abbrev cX5_isThere : ByteArray := prog_7_method_5_code
def yX5_isThere : MethodName := ⟨RX5, "isThere", "(I)Z"⟩
abbrev cX5_go : ByteArray := prog_7_method_6_code
def yX5_go : MethodName := ⟨RX5, "go", "(I)I"⟩
abbrev cX5_prepare : ByteArray := prog_7_method_7_code
def yX5_prepare : MethodName := ⟨RX5, "prepare", "()V"⟩
abbrev cX5_fail : ByteArray := prog_7_method_8_code
def yX5_fail : MethodName := ⟨RX5, "fail", "(I)V"⟩
abbrev cX5_finish : ByteArray := prog_7_method_9_code
def yX5_finish : MethodName := ⟨RX5, "finish", "(II)V"⟩
abbrev cX5_burns : ByteArray := prog_7_method_10_code
def yX5_burns : MethodName := ⟨RX5, "burns", "()Z"⟩
abbrev cX5_put : ByteArray := prog_7_method_11_code
def yX5_put : MethodName := ⟨RX5, "put", "(II)V"⟩
abbrev cX5_look : ByteArray := prog_7_method_12_code
def yX5_look : MethodName := ⟨RX5, "look", "(I)I"⟩
abbrev cX5_step : ByteArray := prog_7_method_13_code
def yX5_step : MethodName := ⟨RX5, "step", "(II)V"⟩
abbrev cX5_turn : ByteArray := prog_7_method_14_code
def yX5_turn : MethodName := ⟨RX5, "turn", "(II)V"⟩
abbrev cX5_link : ByteArray := prog_7_method_15_code
def yX5_link : MethodName := ⟨RX5, "link", "(IIII)V"⟩
abbrev cX5_work : ByteArray := prog_7_method_16_code
def yX5_work : MethodName := ⟨RX5, "work", "(III)V"⟩
abbrev cX5_wordOfByte : ByteArray := prog_7_method_17_code
def yX5_wordOfByte : MethodName := ⟨RX5, "wordOfByte", "(II)I"⟩
abbrev cX5_lookByte : ByteArray := prog_7_method_18_code
def yX5_lookByte : MethodName := ⟨RX5, "lookByte", "()V"⟩
abbrev cX5_putByte : ByteArray := prog_7_method_19_code
def yX5_putByte : MethodName := ⟨RX5, "putByte", "()V"⟩
abbrev cX5_isBetween : ByteArray := prog_7_method_20_code
def yX5_isBetween : MethodName := ⟨RX5, "isBetween", "(III)Z"⟩
abbrev cX5_call : ByteArray := prog_7_method_21_code
def yX5_call : MethodName := ⟨RX5, "call", "(III)V"⟩
abbrev cX5_enter : ByteArray := prog_7_method_22_code
def yX5_enter : MethodName := ⟨RX5, "enter", "(III)V"⟩
abbrev cX5_argument : ByteArray := prog_7_method_23_code
def yX5_argument : MethodName := ⟨RX5, "argument", "(II)I"⟩
abbrev cX5_back : ByteArray := prog_7_method_24_code
def yX5_back : MethodName := ⟨RX5, "back", "()V"⟩
abbrev cX5_apply : ByteArray := prog_7_method_25_code
def yX5_apply : MethodName := ⟨RX5, "apply", "(II)V"⟩
abbrev cX5_serve : ByteArray := prog_7_method_26_code
def yX5_serve : MethodName := ⟨RX5, "serve", "()V"⟩
abbrev cX5_exchange : ByteArray := prog_7_method_27_code
def yX5_exchange : MethodName := ⟨RX5, "exchange", "(II)I"⟩
abbrev cX5_reckon : ByteArray := prog_7_method_28_code
def yX5_reckon : MethodName := ⟨RX5, "reckon", "(IIII)I"⟩
abbrev cX5_writeString : ByteArray := prog_7_method_29_code
def yX5_writeString : MethodName := ⟨RX5, "writeString", "(I)V"⟩
def RX6 : String := "WordTongue$Parser"
def TX6 : u_T := fun k => match k with
  | 0 => ("WordTongue$Parser", "kinds", "LWordTongue$Ints;", true)
  | 1 => ("WordTongue$Parser", "infos", "LWordTongue$Ints;", true)
  | 2 => ("WordTongue$Parser", "places", "LWordTongue$Ints;", true)
  | 3 => ("WordTongue$Parser", "strings", "LWordTongue$Ints;", true)
  | 4 => ("WordTongue$Parser", "tree", "LWordTongue$Tree;", true)
  | 5 => ("WordTongue$Parser", "program", "LWordTongue$Program;", true)
  | 6 => ("WordTongue$Parser", "tags", "LWordTongue$Ints;", true)
  | 7 => ("WordTongue$Parser", "signs", "LWordTongue$Ints;", true)
  | 8 => ("WordTongue$Parser", "globals", "LWordTongue$Ints;", true)
  | 9 => ("WordTongue$Parser", "at", "I", false)
  | 10 => ("WordTongue$Parser", "depth", "I", false)
  | _ => ("WordTongue$Parser", "root", "I", false)
def tyX6 : Nat → FieldType := fun k => match k with
  | 0 => .object "WordTongue$Ints"
  | 1 => .object "WordTongue$Ints"
  | 2 => .object "WordTongue$Ints"
  | 3 => .object "WordTongue$Ints"
  | 4 => .object "WordTongue$Tree"
  | 5 => .object "WordTongue$Program"
  | 6 => .object "WordTongue$Ints"
  | 7 => .object "WordTongue$Ints"
  | 8 => .object "WordTongue$Ints"
  | 9 => .int
  | 10 => .int
  | _ => .int
abbrev wsX60 : List Cond := u_ws RX6 TX6 12
theorem nmX6 : ∀ a, a < 12 → ∀ b, b < 12 → a ≠ b → (TX6 a).2.1 ≠ (TX6 b).2.1 := by decide +kernel
theorem tyX6_ok : ∀ k, k < 12 → parseFieldDescriptor (TX6 k).2.2.1 = some (tyX6 k) := by decide +kernel
abbrev cX6_init : ByteArray := prog_8_method_1_code
def yX6_init : MethodName := ⟨RX6, "<init>", "(LWordTongue$Scanner;LWordTongue$Tree;LWordTongue$Program;)V"⟩
abbrev cX6_root : ByteArray := prog_8_method_2_code
def yX6_root : MethodName := ⟨RX6, "root", "()I"⟩
abbrev cX6_reads : ByteArray := prog_8_method_3_code
def yX6_reads : MethodName := ⟨RX6, "reads", "()Z"⟩
abbrev cX6_kind : ByteArray := prog_8_method_4_code
def yX6_kind : MethodName := ⟨RX6, "kind", "()I"⟩
abbrev cX6_place : ByteArray := prog_8_method_5_code
def yX6_place : MethodName := ⟨RX6, "place", "()I"⟩
abbrev cX6_info : ByteArray := prog_8_method_6_code
def yX6_info : MethodName := ⟨RX6, "info", "()I"⟩
abbrev cX6_advance : ByteArray := prog_8_method_7_code
def yX6_advance : MethodName := ⟨RX6, "advance", "()V"⟩
abbrev cX6_refuse : ByteArray := prog_8_method_8_code
def yX6_refuse : MethodName := ⟨RX6, "refuse", "()V"⟩
abbrev cX6_due : ByteArray := prog_8_method_9_code
def yX6_due : MethodName := ⟨RX6, "due", "(I)V"⟩
abbrev cX6_enter : ByteArray := prog_8_method_10_code
def yX6_enter : MethodName := ⟨RX6, "enter", "()V"⟩
abbrev cX6_nameDue : ByteArray := prog_8_method_11_code
def yX6_nameDue : MethodName := ⟨RX6, "nameDue", "()I"⟩
abbrev cX6_leaf : ByteArray := prog_8_method_12_code
def yX6_leaf : MethodName := ⟨RX6, "leaf", "(I)I"⟩
abbrev cX6_text : ByteArray := prog_8_method_13_code
def yX6_text : MethodName := ⟨RX6, "text", "()I"⟩
abbrev cX6_declaration : ByteArray := prog_8_method_14_code
def yX6_declaration : MethodName := ⟨RX6, "declaration", "(Z)I"⟩
abbrev cX6_definitions : ByteArray := prog_8_method_15_code
def yX6_definitions : MethodName := ⟨RX6, "definitions", "(Z)I"⟩
abbrev cX6_open : ByteArray := prog_8_method_16_code
def yX6_open : MethodName := ⟨RX6, "open", "()V"⟩
abbrev cX6_close : ByteArray := prog_8_method_17_code
def yX6_close : MethodName := ⟨RX6, "close", "()V"⟩
abbrev cX6_isOpen : ByteArray := prog_8_method_18_code
def yX6_isOpen : MethodName := ⟨RX6, "isOpen", "(I)Z"⟩
abbrev cX6_routine : ByteArray := prog_8_method_19_code
def yX6_routine : MethodName := ⟨RX6, "routine", "(Z)I"⟩
abbrev cX6_isGlobal : ByteArray := prog_8_method_20_code
def yX6_isGlobal : MethodName := ⟨RX6, "isGlobal", "(I)Z"⟩
abbrev cX6_names : ByteArray := prog_8_method_21_code
def yX6_names : MethodName := ⟨RX6, "names", "(I)V"⟩
abbrev cX6_variables : ByteArray := prog_8_method_22_code
def yX6_variables : MethodName := ⟨RX6, "variables", "(I)V"⟩
abbrev cX6_section : ByteArray := prog_8_method_23_code
def yX6_section : MethodName := ⟨RX6, "section", "(Z)I"⟩
abbrev cX6_cases : ByteArray := prog_8_method_24_code
def yX6_cases : MethodName := ⟨RX6, "cases", "(I)V"⟩
abbrev cX6_labels : ByteArray := prog_8_method_25_code
def yX6_labels : MethodName := ⟨RX6, "labels", "(I)V"⟩
abbrev cX6_command : ByteArray := prog_8_method_26_code
def yX6_command : MethodName := ⟨RX6, "command", "()I"⟩
abbrev cX6_isRepeat : ByteArray := prog_8_method_27_code
def yX6_isRepeat : MethodName := ⟨RX6, "isRepeat", "(I)Z"⟩
abbrev cX6_repeats : ByteArray := prog_8_method_28_code
def yX6_repeats : MethodName := ⟨RX6, "repeats", "(I)I"⟩
abbrev cX6_conditional : ByteArray := prog_8_method_29_code
def yX6_conditional : MethodName := ⟨RX6, "conditional", "()I"⟩
abbrev cX6_passDo : ByteArray := prog_8_method_30_code
def yX6_passDo : MethodName := ⟨RX6, "passDo", "()V"⟩
abbrev cX6_counting : ByteArray := prog_8_method_31_code
def yX6_counting : MethodName := ⟨RX6, "counting", "()I"⟩
abbrev cX6_switching : ByteArray := prog_8_method_32_code
def yX6_switching : MethodName := ⟨RX6, "switching", "()I"⟩
abbrev cX6_assignment : ByteArray := prog_8_method_33_code
def yX6_assignment : MethodName := ⟨RX6, "assignment", "()I"⟩
abbrev cX6_isCall : ByteArray := prog_8_method_34_code
def yX6_isCall : MethodName := ⟨RX6, "isCall", "(I)Z"⟩
abbrev cX6_expression : ByteArray := prog_8_method_35_code
def yX6_expression : MethodName := ⟨RX6, "expression", "()I"⟩
abbrev cX6_settle : ByteArray := prog_8_method_36_code
def yX6_settle : MethodName := ⟨RX6, "settle", "(III)V"⟩
abbrev cX6_operand : ByteArray := prog_8_method_37_code
def yX6_operand : MethodName := ⟨RX6, "operand", "(I)V"⟩
abbrev cX6_passSigns : ByteArray := prog_8_method_38_code
def yX6_passSigns : MethodName := ⟨RX6, "passSigns", "(Z)V"⟩
abbrev cX6_hangSigns : ByteArray := prog_8_method_39_code
def yX6_hangSigns : MethodName := ⟨RX6, "hangSigns", "(II)V"⟩
abbrev cX6_primary : ByteArray := prog_8_method_40_code
def yX6_primary : MethodName := ⟨RX6, "primary", "()I"⟩
abbrev cX6_table : ByteArray := prog_8_method_41_code
def yX6_table : MethodName := ⟨RX6, "table", "()I"⟩
abbrev cX6_pack : ByteArray := prog_8_method_42_code
def yX6_pack : MethodName := ⟨RX6, "pack", "(I)I"⟩
abbrev cX6_calls : ByteArray := prog_8_method_43_code
def yX6_calls : MethodName := ⟨RX6, "calls", "(I)I"⟩
def RX7 : String := "WordTongue$Program"
def TX7 : u_T := fun k => match k with
  | 0 => ("WordTongue$Program", "code", "LWordTongue$Ints;", true)
  | 1 => ("WordTongue$Program", "image", "LWordTongue$Ints;", true)
  | 2 => ("WordTongue$Program", "homes", "LWordTongue$Ints;", true)
  | 3 => ("WordTongue$Program", "starts", "LWordTongue$Ints;", true)
  | 4 => ("WordTongue$Program", "frames", "LWordTongue$Ints;", true)
  | 5 => ("WordTongue$Program", "params", "LWordTongue$Ints;", true)
  | 6 => ("WordTongue$Program", "storeWords", "I", false)
  | 7 => ("WordTongue$Program", "starter", "I", false)
  | 8 => ("WordTongue$Program", "kind", "I", false)
  | 9 => ("WordTongue$Program", "place", "I", false)
  | _ => ("WordTongue$Program", "ready", "Z", false)
def tyX7 : Nat → FieldType := fun k => match k with
  | 0 => .object "WordTongue$Ints"
  | 1 => .object "WordTongue$Ints"
  | 2 => .object "WordTongue$Ints"
  | 3 => .object "WordTongue$Ints"
  | 4 => .object "WordTongue$Ints"
  | 5 => .object "WordTongue$Ints"
  | 6 => .int
  | 7 => .int
  | 8 => .int
  | 9 => .int
  | _ => .boolean
abbrev wsX70 : List Cond := u_ws RX7 TX7 11
theorem nmX7 : ∀ a, a < 11 → ∀ b, b < 11 → a ≠ b → (TX7 a).2.1 ≠ (TX7 b).2.1 := by decide +kernel
theorem tyX7_ok : ∀ k, k < 11 → parseFieldDescriptor (TX7 k).2.2.1 = some (tyX7 k) := by decide +kernel
abbrev cX7_init : ByteArray := prog_9_method_1_code
def yX7_init : MethodName := ⟨RX7, "<init>", "()V"⟩
abbrev cX7_clear : ByteArray := prog_9_method_2_code
def yX7_clear : MethodName := ⟨RX7, "clear", "(I)V"⟩
abbrev cX7_blame : ByteArray := prog_9_method_3_code
def yX7_blame : MethodName := ⟨RX7, "blame", "(II)V"⟩
abbrev cX7_judge : ByteArray := prog_9_method_4_code
def yX7_judge : MethodName := ⟨RX7, "judge", "()V"⟩
abbrev cX7_isReady : ByteArray := prog_9_method_5_code
def yX7_isReady : MethodName := ⟨RX7, "isReady", "()Z"⟩
abbrev cX7_faultKind : ByteArray := prog_9_method_6_code
def yX7_faultKind : MethodName := ⟨RX7, "faultKind", "()I"⟩
abbrev cX7_faultPlace : ByteArray := prog_9_method_7_code
def yX7_faultPlace : MethodName := ⟨RX7, "faultPlace", "()I"⟩
abbrev cX7_storeWords : ByteArray := prog_9_method_8_code
def yX7_storeWords : MethodName := ⟨RX7, "storeWords", "()I"⟩
abbrev cX7_words : ByteArray := prog_9_method_9_code
def yX7_words : MethodName := ⟨RX7, "words", "()I"⟩
abbrev cX7_wordAt : ByteArray := prog_9_method_10_code
def yX7_wordAt : MethodName := ⟨RX7, "wordAt", "(I)I"⟩
abbrev cX7_setWord : ByteArray := prog_9_method_11_code
def yX7_setWord : MethodName := ⟨RX7, "setWord", "(II)V"⟩
abbrev cX7_addWord : ByteArray := prog_9_method_12_code
def yX7_addWord : MethodName := ⟨RX7, "addWord", "(I)I"⟩
abbrev cX7_addRoutine : ByteArray := prog_9_method_13_code
def yX7_addRoutine : MethodName := ⟨RX7, "addRoutine", "(Z)I"⟩
abbrev cX7_setStarter : ByteArray := prog_9_method_14_code
def yX7_setStarter : MethodName := ⟨RX7, "setStarter", "(I)V"⟩
abbrev cX7_starter : ByteArray := prog_9_method_15_code
def yX7_starter : MethodName := ⟨RX7, "starter", "()I"⟩
abbrev cX7_routines : ByteArray := prog_9_method_16_code
def yX7_routines : MethodName := ⟨RX7, "routines", "()I"⟩
abbrev cX7_home : ByteArray := prog_9_method_17_code
def yX7_home : MethodName := ⟨RX7, "home", "(I)I"⟩
abbrev cX7_begin : ByteArray := prog_9_method_18_code
def yX7_begin : MethodName := ⟨RX7, "begin", "(I)I"⟩
abbrev cX7_frame : ByteArray := prog_9_method_19_code
def yX7_frame : MethodName := ⟨RX7, "frame", "(I)I"⟩
abbrev cX7_params : ByteArray := prog_9_method_20_code
def yX7_params : MethodName := ⟨RX7, "params", "(I)I"⟩
abbrev cX7_setBegin : ByteArray := prog_9_method_21_code
def yX7_setBegin : MethodName := ⟨RX7, "setBegin", "(II)V"⟩
abbrev cX7_setFrame : ByteArray := prog_9_method_22_code
def yX7_setFrame : MethodName := ⟨RX7, "setFrame", "(II)V"⟩
abbrev cX7_emit : ByteArray := prog_9_method_23_code
def yX7_emit : MethodName := ⟨RX7, "emit", "(II)I"⟩
abbrev cX7_here : ByteArray := prog_9_method_24_code
def yX7_here : MethodName := ⟨RX7, "here", "()I"⟩
abbrev cX7_codeAt : ByteArray := prog_9_method_25_code
def yX7_codeAt : MethodName := ⟨RX7, "codeAt", "(I)I"⟩
abbrev cX7_setOperand : ByteArray := prog_9_method_26_code
def yX7_setOperand : MethodName := ⟨RX7, "setOperand", "(II)V"⟩
abbrev cX7_land : ByteArray := prog_9_method_27_code
def yX7_land : MethodName := ⟨RX7, "land", "(I)V"⟩
abbrev cX7_landAt : ByteArray := prog_9_method_28_code
def yX7_landAt : MethodName := ⟨RX7, "landAt", "(II)V"⟩
def RX8 : String := "WordTongue$Scanner"
def TX8 : u_T := fun k => match k with
  | 0 => ("WordTongue$Scanner", "text", "LWordTongue$Ints;", true)
  | 1 => ("WordTongue$Scanner", "kinds", "LWordTongue$Ints;", true)
  | 2 => ("WordTongue$Scanner", "infos", "LWordTongue$Ints;", true)
  | 3 => ("WordTongue$Scanner", "places", "LWordTongue$Ints;", true)
  | 4 => ("WordTongue$Scanner", "strings", "LWordTongue$Ints;", true)
  | 5 => ("WordTongue$Scanner", "letters", "LWordTongue$Ints;", true)
  | 6 => ("WordTongue$Scanner", "heads", "LWordTongue$Ints;", true)
  | 7 => ("WordTongue$Scanner", "sums", "LWordTongue$Ints;", true)
  | 8 => ("WordTongue$Scanner", "knownLetters", "I", true)
  | 9 => ("WordTongue$Scanner", "at", "I", false)
  | _ => ("WordTongue$Scanner", "fresh", "Z", false)
def tyX8 : Nat → FieldType := fun k => match k with
  | 0 => .object "WordTongue$Ints"
  | 1 => .object "WordTongue$Ints"
  | 2 => .object "WordTongue$Ints"
  | 3 => .object "WordTongue$Ints"
  | 4 => .object "WordTongue$Ints"
  | 5 => .object "WordTongue$Ints"
  | 6 => .object "WordTongue$Ints"
  | 7 => .object "WordTongue$Ints"
  | 8 => .int
  | 9 => .int
  | _ => .boolean
abbrev wsX80 : List Cond := u_ws RX8 TX8 11
theorem nmX8 : ∀ a, a < 11 → ∀ b, b < 11 → a ≠ b → (TX8 a).2.1 ≠ (TX8 b).2.1 := by decide +kernel
theorem tyX8_ok : ∀ k, k < 11 → parseFieldDescriptor (TX8 k).2.2.1 = some (tyX8 k) := by decide +kernel
abbrev cX8_init : ByteArray := prog_10_method_1_code
def yX8_init : MethodName := ⟨RX8, "<init>", "(LWordTongue$Ints;)V"⟩
abbrev cX8_know : ByteArray := prog_10_method_2_code
def yX8_know : MethodName := ⟨RX8, "know", "(Ljava/lang/String;)V"⟩
abbrev cX8_idOf : ByteArray := prog_10_method_3_code
def yX8_idOf : MethodName := ⟨RX8, "idOf", "(LWordTongue$Ints;II)I"⟩
abbrev cX8_isAlike : ByteArray := prog_10_method_4_code
def yX8_isAlike : MethodName := ⟨RX8, "isAlike", "(ILWordTongue$Ints;II)Z"⟩
abbrev cX8_kinds : ByteArray := prog_10_method_5_code
def yX8_kinds : MethodName := ⟨RX8, "kinds", "()LWordTongue$Ints;"⟩
abbrev cX8_infos : ByteArray := prog_10_method_6_code
def yX8_infos : MethodName := ⟨RX8, "infos", "()LWordTongue$Ints;"⟩
abbrev cX8_places : ByteArray := prog_10_method_7_code
def yX8_places : MethodName := ⟨RX8, "places", "()LWordTongue$Ints;"⟩
abbrev cX8_strings : ByteArray := prog_10_method_8_code
def yX8_strings : MethodName := ⟨RX8, "strings", "()LWordTongue$Ints;"⟩
abbrev cX8_scan : ByteArray := prog_10_method_9_code
def yX8_scan : MethodName := ⟨RX8, "scan", "()V"⟩
abbrev cX8_pass : ByteArray := prog_10_method_10_code
def yX8_pass : MethodName := ⟨RX8, "pass", "()V"⟩
abbrev cX8_skipLine : ByteArray := prog_10_method_11_code
def yX8_skipLine : MethodName := ⟨RX8, "skipLine", "()V"⟩
abbrev cX8_put : ByteArray := prog_10_method_12_code
def yX8_put : MethodName := ⟨RX8, "put", "(III)V"⟩
abbrev cX8_mayEnd : ByteArray := prog_10_method_13_code
def yX8_mayEnd : MethodName := ⟨RX8, "mayEnd", "(I)Z"⟩
abbrev cX8_mayBegin : ByteArray := prog_10_method_14_code
def yX8_mayBegin : MethodName := ⟨RX8, "mayBegin", "(I)Z"⟩
abbrev cX8_token : ByteArray := prog_10_method_15_code
def yX8_token : MethodName := ⟨RX8, "token", "()V"⟩
abbrev cX8_isLetter : ByteArray := prog_10_method_16_code
def yX8_isLetter : MethodName := ⟨RX8, "isLetter", "(I)Z"⟩
abbrev cX8_isDigit : ByteArray := prog_10_method_17_code
def yX8_isDigit : MethodName := ⟨RX8, "isDigit", "(I)Z"⟩
abbrev cX8_isRest : ByteArray := prog_10_method_18_code
def yX8_isRest : MethodName := ⟨RX8, "isRest", "(I)Z"⟩
abbrev cX8_restEnd : ByteArray := prog_10_method_19_code
def yX8_restEnd : MethodName := ⟨RX8, "restEnd", "(I)I"⟩
abbrev cX8_name : ByteArray := prog_10_method_20_code
def yX8_name : MethodName := ⟨RX8, "name", "(I)V"⟩
abbrev cX8_digitOf : ByteArray := prog_10_method_21_code
def yX8_digitOf : MethodName := ⟨RX8, "digitOf", "(I)I"⟩
abbrev cX8_number : ByteArray := prog_10_method_22_code
def yX8_number : MethodName := ⟨RX8, "number", "(III)V"⟩
abbrev cX8_quoted : ByteArray := prog_10_method_23_code
def yX8_quoted : MethodName := ⟨RX8, "quoted", "(I)I"⟩
abbrev cX8_string : ByteArray := prog_10_method_24_code
def yX8_string : MethodName := ⟨RX8, "string", "(I)V"⟩
abbrev cX8_section : ByteArray := prog_10_method_25_code
def yX8_section : MethodName := ⟨RX8, "section", "(I)V"⟩
abbrev cX8_sign : ByteArray := prog_10_method_26_code
def yX8_sign : MethodName := ⟨RX8, "sign", "(II)V"⟩
abbrev cX8_doubled : ByteArray := prog_10_method_27_code
def yX8_doubled : MethodName := ⟨RX8, "doubled", "(II)I"⟩
abbrev cX8_single : ByteArray := prog_10_method_28_code
def yX8_single : MethodName := ⟨RX8, "single", "(I)I"⟩
def RX9 : String := "WordTongue$Scope"
def TX9 : u_T := fun k => match k with
  | 0 => ("WordTongue$Scope", "program", "LWordTongue$Program;", true)
  | 1 => ("WordTongue$Scope", "names", "LWordTongue$Ints;", true)
  | 2 => ("WordTongue$Scope", "kinds", "LWordTongue$Ints;", true)
  | 3 => ("WordTongue$Scope", "datas", "LWordTongue$Ints;", true)
  | 4 => ("WordTongue$Scope", "owners", "LWordTongue$Ints;", true)
  | 5 => ("WordTongue$Scope", "places", "LWordTongue$Ints;", true)
  | 6 => ("WordTongue$Scope", "marks", "LWordTongue$Ints;", true)
  | _ => ("WordTongue$Scope", "floor", "I", false)
def tyX9 : Nat → FieldType := fun k => match k with
  | 0 => .object "WordTongue$Program"
  | 1 => .object "WordTongue$Ints"
  | 2 => .object "WordTongue$Ints"
  | 3 => .object "WordTongue$Ints"
  | 4 => .object "WordTongue$Ints"
  | 5 => .object "WordTongue$Ints"
  | 6 => .object "WordTongue$Ints"
  | _ => .int
abbrev wsX90 : List Cond := u_ws RX9 TX9 8
theorem nmX9 : ∀ a, a < 8 → ∀ b, b < 8 → a ≠ b → (TX9 a).2.1 ≠ (TX9 b).2.1 := by decide +kernel
theorem tyX9_ok : ∀ k, k < 8 → parseFieldDescriptor (TX9 k).2.2.1 = some (tyX9 k) := by decide +kernel
abbrev cX9_init : ByteArray := prog_11_method_1_code
def yX9_init : MethodName := ⟨RX9, "<init>", "(LWordTongue$Program;)V"⟩
abbrev cX9_clear : ByteArray := prog_11_method_2_code
def yX9_clear : MethodName := ⟨RX9, "clear", "()V"⟩
abbrev cX9_cut : ByteArray := prog_11_method_3_code
def yX9_cut : MethodName := ⟨RX9, "cut", "(I)V"⟩
abbrev cX9_put : ByteArray := prog_11_method_4_code
def yX9_put : MethodName := ⟨RX9, "put", "(IIIII)I"⟩
abbrev cX9_open : ByteArray := prog_11_method_5_code
def yX9_open : MethodName := ⟨RX9, "open", "()V"⟩
abbrev cX9_close : ByteArray := prog_11_method_6_code
def yX9_close : MethodName := ⟨RX9, "close", "()V"⟩
abbrev cX9_declare : ByteArray := prog_11_method_7_code
def yX9_declare : MethodName := ⟨RX9, "declare", "(IIIII)I"⟩
abbrev cX9_find : ByteArray := prog_11_method_8_code
def yX9_find : MethodName := ⟨RX9, "find", "(I)I"⟩
abbrev cX9_kind : ByteArray := prog_11_method_9_code
def yX9_kind : MethodName := ⟨RX9, "kind", "(I)I"⟩
abbrev cX9_data : ByteArray := prog_11_method_10_code
def yX9_data : MethodName := ⟨RX9, "data", "(I)I"⟩
abbrev cX9_owner : ByteArray := prog_11_method_11_code
def yX9_owner : MethodName := ⟨RX9, "owner", "(I)I"⟩
abbrev cX9_place : ByteArray := prog_11_method_12_code
def yX9_place : MethodName := ⟨RX9, "place", "(I)I"⟩
abbrev cX9_setData : ByteArray := prog_11_method_13_code
def yX9_setData : MethodName := ⟨RX9, "setData", "(II)V"⟩
abbrev cX9_setOwner : ByteArray := prog_11_method_14_code
def yX9_setOwner : MethodName := ⟨RX9, "setOwner", "(II)V"⟩
def RX10 : String := "WordTongue$Tree"
def TX10 : u_T := fun k => match k with
  | 0 => ("WordTongue$Tree", "kinds", "LWordTongue$Ints;", true)
  | 1 => ("WordTongue$Tree", "places", "LWordTongue$Ints;", true)
  | 2 => ("WordTongue$Tree", "datas", "LWordTongue$Ints;", true)
  | 3 => ("WordTongue$Tree", "extras", "LWordTongue$Ints;", true)
  | 4 => ("WordTongue$Tree", "firsts", "LWordTongue$Ints;", true)
  | 5 => ("WordTongue$Tree", "lasts", "LWordTongue$Ints;", true)
  | _ => ("WordTongue$Tree", "nexts", "LWordTongue$Ints;", true)
def tyX10 : Nat → FieldType := fun k => match k with
  | 0 => .object "WordTongue$Ints"
  | 1 => .object "WordTongue$Ints"
  | 2 => .object "WordTongue$Ints"
  | 3 => .object "WordTongue$Ints"
  | 4 => .object "WordTongue$Ints"
  | 5 => .object "WordTongue$Ints"
  | _ => .object "WordTongue$Ints"
abbrev wsX100 : List Cond := u_ws RX10 TX10 7
theorem nmX10 : ∀ a, a < 7 → ∀ b, b < 7 → a ≠ b → (TX10 a).2.1 ≠ (TX10 b).2.1 := by decide +kernel
theorem tyX10_ok : ∀ k, k < 7 → parseFieldDescriptor (TX10 k).2.2.1 = some (tyX10 k) := by decide +kernel
abbrev cX10_init : ByteArray := prog_12_method_1_code
def yX10_init : MethodName := ⟨RX10, "<init>", "()V"⟩
abbrev cX10_clear : ByteArray := prog_12_method_2_code
def yX10_clear : MethodName := ⟨RX10, "clear", "()V"⟩
abbrev cX10_node : ByteArray := prog_12_method_3_code
def yX10_node : MethodName := ⟨RX10, "node", "(III)I"⟩
abbrev cX10_hang : ByteArray := prog_12_method_4_code
def yX10_hang : MethodName := ⟨RX10, "hang", "(II)V"⟩
abbrev cX10_kind : ByteArray := prog_12_method_5_code
def yX10_kind : MethodName := ⟨RX10, "kind", "(I)I"⟩
abbrev cX10_place : ByteArray := prog_12_method_6_code
def yX10_place : MethodName := ⟨RX10, "place", "(I)I"⟩
abbrev cX10_data : ByteArray := prog_12_method_7_code
def yX10_data : MethodName := ⟨RX10, "data", "(I)I"⟩
abbrev cX10_extra : ByteArray := prog_12_method_8_code
def yX10_extra : MethodName := ⟨RX10, "extra", "(I)I"⟩
abbrev cX10_first : ByteArray := prog_12_method_9_code
def yX10_first : MethodName := ⟨RX10, "first", "(I)I"⟩
abbrev cX10_last : ByteArray := prog_12_method_10_code
def yX10_last : MethodName := ⟨RX10, "last", "(I)I"⟩
abbrev cX10_next : ByteArray := prog_12_method_11_code
def yX10_next : MethodName := ⟨RX10, "next", "(I)I"⟩
abbrev cX10_setKind : ByteArray := prog_12_method_12_code
def yX10_setKind : MethodName := ⟨RX10, "setKind", "(II)V"⟩
abbrev cX10_setData : ByteArray := prog_12_method_13_code
def yX10_setData : MethodName := ⟨RX10, "setData", "(II)V"⟩
abbrev cX10_setExtra : ByteArray := prog_12_method_14_code
def yX10_setExtra : MethodName := ⟨RX10, "setExtra", "(II)V"⟩
def RX11 : String := "WordTongue"
def TX11 : u_T := fun k => match k with
  | 0 => ("WordTongue", "tape", "LWordTongue$Ints;", true)
  | 1 => ("WordTongue", "program", "LWordTongue$Program;", true)
  | 2 => ("WordTongue", "tree", "LWordTongue$Tree;", true)
  | 3 => ("WordTongue", "scanner", "LWordTongue$Scanner;", true)
  | 4 => ("WordTongue", "parser", "LWordTongue$Parser;", true)
  | 5 => ("WordTongue", "coder", "LWordTongue$Coder;", true)
  | 6 => ("WordTongue", "channels", "LWordTongue$Channels;", true)
  | 7 => ("WordTongue", "machine", "LWordTongue$Machine;", true)
  | 8 => ("WordTongue", "storeWords", "I", false)
  | _ => ("WordTongue", "goodWords", "I", false)
def tyX11 : Nat → FieldType := fun k => match k with
  | 0 => .object "WordTongue$Ints"
  | 1 => .object "WordTongue$Program"
  | 2 => .object "WordTongue$Tree"
  | 3 => .object "WordTongue$Scanner"
  | 4 => .object "WordTongue$Parser"
  | 5 => .object "WordTongue$Coder"
  | 6 => .object "WordTongue$Channels"
  | 7 => .object "WordTongue$Machine"
  | 8 => .int
  | _ => .int
abbrev wsX110 : List Cond := u_ws RX11 TX11 10
theorem nmX11 : ∀ a, a < 10 → ∀ b, b < 10 → a ≠ b → (TX11 a).2.1 ≠ (TX11 b).2.1 := by decide +kernel
theorem tyX11_ok : ∀ k, k < 10 → parseFieldDescriptor (TX11 k).2.2.1 = some (tyX11 k) := by decide +kernel
abbrev cX11_init : ByteArray := prog_1_method_1_code
def yX11_init : MethodName := ⟨RX11, "<init>", "()V"⟩
abbrev cX11_feed : ByteArray := prog_1_method_2_code
def yX11_feed : MethodName := ⟨RX11, "feed", "(IIIII)Z"⟩
abbrev cX11_addBytes : ByteArray := prog_1_method_3_code
def yX11_addBytes : MethodName := ⟨RX11, "addBytes", "(I)V"⟩
abbrev cX11_end : ByteArray := prog_1_method_4_code
def yX11_end : MethodName := ⟨RX11, "end", "(I)Z"⟩
abbrev cX11_compile : ByteArray := prog_1_method_5_code
def yX11_compile : MethodName := ⟨RX11, "compile", "()I"⟩
abbrev cX11_fault : ByteArray := prog_1_method_6_code
def yX11_fault : MethodName := ⟨RX11, "fault", "()I"⟩
abbrev cX11_store : ByteArray := prog_1_method_7_code
def yX11_store : MethodName := ⟨RX11, "store", "(I)Z"⟩
abbrev cX11_input : ByteArray := prog_1_method_8_code
def yX11_input : MethodName := ⟨RX11, "input", "(I)I"⟩
abbrev cX11_run : ByteArray := prog_1_method_9_code
def yX11_run : MethodName := ⟨RX11, "run", "(I)I"⟩
abbrev cX11_value : ByteArray := prog_1_method_10_code
def yX11_value : MethodName := ⟨RX11, "value", "()I"⟩
abbrev cX11_out : ByteArray := prog_1_method_11_code
def yX11_out : MethodName := ⟨RX11, "out", "(I)I"⟩
abbrev cX11_outAt : ByteArray := prog_1_method_12_code
def yX11_outAt : MethodName := ⟨RX11, "outAt", "(II)I"⟩
abbrev cX11_word : ByteArray := prog_1_method_13_code
def yX11_word : MethodName := ⟨RX11, "word", "(I)I"⟩
abbrev cX11_fuel : ByteArray := prog_1_method_14_code
def yX11_fuel : MethodName := ⟨RX11, "fuel", "()I"⟩
abbrev cX11_worked : ByteArray := prog_1_method_15_code
def yX11_worked : MethodName := ⟨RX11, "worked", "(III)I"⟩
abbrev cX11_holds : ByteArray := prog_1_method_16_code
def yX11_holds : MethodName := ⟨RX11, "holds", "(III)Z"⟩
abbrev cX11_power : ByteArray := prog_1_method_17_code
def yX11_power : MethodName := ⟨RX11, "power", "(I)I"⟩
abbrev cX11_isRelation : ByteArray := prog_1_method_18_code
def yX11_isRelation : MethodName := ⟨RX11, "isRelation", "(I)Z"⟩
abbrev cX11_isDivision : ByteArray := prog_1_method_19_code
def yX11_isDivision : MethodName := ⟨RX11, "isDivision", "(I)Z"⟩
def RX12 : String := "WordTongueModel"
def TX12 : u_T := fun k => match k with
  | 0 => ("WordTongueModel", "thrownCode", "I", false)
  | 1 => ("WordTongueModel", "tape", "[B", true)
  | 2 => ("WordTongueModel", "tapeLen", "I", false)
  | 3 => ("WordTongueModel", "src", "[B", true)
  | 4 => ("WordTongueModel", "srcLen", "I", false)
  | 5 => ("WordTongueModel", "names", "I", false)
  | 6 => ("WordTongueModel", "nameAt", "[I", true)
  | 7 => ("WordTongueModel", "nameLen", "[I", true)
  | 8 => ("WordTongueModel", "tokens", "I", false)
  | 9 => ("WordTongueModel", "tKind", "[I", true)
  | 10 => ("WordTongueModel", "tAt", "[I", true)
  | 11 => ("WordTongueModel", "tValue", "[I", true)
  | 12 => ("WordTongueModel", "faultOf", "I", false)
  | 13 => ("WordTongueModel", "faultAt", "I", false)
  | 14 => ("WordTongueModel", "strs", "[B", true)
  | 15 => ("WordTongueModel", "strsLen", "I", false)
  | 16 => ("WordTongueModel", "strAt", "[I", true)
  | 17 => ("WordTongueModel", "strLen", "[I", true)
  | 18 => ("WordTongueModel", "strCount", "I", false)
  | 19 => ("WordTongueModel", "line", "I", false)
  | 20 => ("WordTongueModel", "lastLine", "I", false)
  | 21 => ("WordTongueModel", "cValue", "I", false)
  | 22 => ("WordTongueModel", "number", "I", false)
  | 23 => ("WordTongueModel", "signLen", "I", false)
  | 24 => ("WordTongueModel", "nodes", "I", false)
  | 25 => ("WordTongueModel", "nKind", "[B", true)
  | 26 => ("WordTongueModel", "nTok", "[I", true)
  | 27 => ("WordTongueModel", "nChild", "[I", true)
  | 28 => ("WordTongueModel", "nNext", "[I", true)
  | 29 => ("WordTongueModel", "nA", "[I", true)
  | 30 => ("WordTongueModel", "nB", "[I", true)
  | 31 => ("WordTongueModel", "nC", "[I", true)
  | 32 => ("WordTongueModel", "nPair", "[I", true)
  | 33 => ("WordTongueModel", "nRel", "[I", true)
  | 34 => ("WordTongueModel", "nFirst", "[I", true)
  | 35 => ("WordTongueModel", "nParen", "[Z", true)
  | 36 => ("WordTongueModel", "out", "[I", true)
  | 37 => ("WordTongueModel", "outs", "I", false)
  | 38 => ("WordTongueModel", "goals", "I", false)
  | 39 => ("WordTongueModel", "gKind", "[I", true)
  | 40 => ("WordTongueModel", "gX", "[I", true)
  | 41 => ("WordTongueModel", "gY", "[I", true)
  | 42 => ("WordTongueModel", "gZ", "[I", true)
  | 43 => ("WordTongueModel", "at", "I", false)
  | 44 => ("WordTongueModel", "depth", "I", false)
  | 45 => ("WordTongueModel", "sections", "I", false)
  | 46 => ("WordTongueModel", "secTag", "[I", true)
  | 47 => ("WordTongueModel", "secDepth", "[I", true)
  | 48 => ("WordTongueModel", "lexEnd", "I", false)
  | 49 => ("WordTongueModel", "entries", "I", false)
  | 50 => ("WordTongueModel", "eName", "[I", true)
  | 51 => ("WordTongueModel", "eKind", "[I", true)
  | 52 => ("WordTongueModel", "eValue", "[I", true)
  | 53 => ("WordTongueModel", "eState", "[I", true)
  | 54 => ("WordTongueModel", "eOther", "[I", true)
  | 55 => ("WordTongueModel", "blockBase", "I", false)
  | 56 => ("WordTongueModel", "libName", "[I", true)
  | 57 => ("WordTongueModel", "eTok", "[I", true)
  | 58 => ("WordTongueModel", "kGood", "Z", false)
  | 59 => ("WordTongueModel", "kValue", "I", false)
  | 60 => ("WordTongueModel", "walk", "[I", true)
  | 61 => ("WordTongueModel", "step", "[I", true)
  | 62 => ("WordTongueModel", "kWork", "[I", true)
  | 63 => ("WordTongueModel", "tasks", "I", false)
  | 64 => ("WordTongueModel", "cTask", "[I", true)
  | 65 => ("WordTongueModel", "cNode", "[I", true)
  | 66 => ("WordTongueModel", "cAux", "[I", true)
  | 67 => ("WordTongueModel", "saved", "I", false)
  | 68 => ("WordTongueModel", "save", "[I", true)
  | 69 => ("WordTongueModel", "routines", "I", false)
  | 70 => ("WordTongueModel", "rMax", "[I", true)
  | 71 => ("WordTongueModel", "rParams", "[I", true)
  | 72 => ("WordTongueModel", "rBody", "[I", true)
  | 73 => ("WordTongueModel", "routine", "I", false)
  | 74 => ("WordTongueModel", "inUse", "I", false)
  | 75 => ("WordTongueModel", "mostUse", "I", false)
  | 76 => ("WordTongueModel", "gives", "Z", false)
  | 77 => ("WordTongueModel", "valof", "I", false)
  | 78 => ("WordTongueModel", "valofs", "I", false)
  | 79 => ("WordTongueModel", "loops", "I", false)
  | 80 => ("WordTongueModel", "switches", "I", false)
  | 81 => ("WordTongueModel", "words", "I", false)
  | 82 => ("WordTongueModel", "start", "I", false)
  | 83 => ("WordTongueModel", "startName", "I", false)
  | 84 => ("WordTongueModel", "inits", "I", false)
  | 85 => ("WordTongueModel", "initAt", "[I", true)
  | 86 => ("WordTongueModel", "initValue", "[I", true)
  | 87 => ("WordTongueModel", "todo", "I", false)
  | 88 => ("WordTongueModel", "xTask", "[I", false)
  | 89 => ("WordTongueModel", "xNode", "[I", false)
  | 90 => ("WordTongueModel", "xAux", "[I", false)
  | 91 => ("WordTongueModel", "vals", "I", false)
  | 92 => ("WordTongueModel", "val", "[I", false)
  | 93 => ("WordTongueModel", "backB", "[I", true)
  | 94 => ("WordTongueModel", "backR", "[I", true)
  | 95 => ("WordTongueModel", "under", "I", false)
  | 96 => ("WordTongueModel", "base", "I", false)
  | 97 => ("WordTongueModel", "running", "I", false)
  | 98 => ("WordTongueModel", "store", "[I", true)
  | 99 => ("WordTongueModel", "size", "I", false)
  | 100 => ("WordTongueModel", "wanted", "I", false)
  | 101 => ("WordTongueModel", "fuelLeft", "I", false)
  | 102 => ("WordTongueModel", "ended", "Z", false)
  | 103 => ("WordTongueModel", "answer", "I", false)
  | 104 => ("WordTongueModel", "result", "I", false)
  | 105 => ("WordTongueModel", "compiled", "Z", false)
  | 106 => ("WordTongueModel", "gots", "I", false)
  | 107 => ("WordTongueModel", "gotAt", "[I", true)
  | 108 => ("WordTongueModel", "gotLen", "[I", true)
  | 109 => ("WordTongueModel", "input", "[B", true)
  | 110 => ("WordTongueModel", "runEnd", "[I", true)
  | 111 => ("WordTongueModel", "digitsFrom", "[I", true)
  | 112 => ("WordTongueModel", "inLen", "[I", true)
  | 113 => ("WordTongueModel", "inAt", "[I", true)
  | 114 => ("WordTongueModel", "inNow", "I", false)
  | 115 => ("WordTongueModel", "output", "[B", true)
  | 116 => ("WordTongueModel", "outLen", "[I", true)
  | 117 => ("WordTongueModel", "outNow", "I", false)
  | _ => ("WordTongueModel", "figures", "[B", true)
def tyX12 : Nat → FieldType := fun k => match k with
  | 0 => .int
  | 1 => .array .byte
  | 2 => .int
  | 3 => .array .byte
  | 4 => .int
  | 5 => .int
  | 6 => .array .int
  | 7 => .array .int
  | 8 => .int
  | 9 => .array .int
  | 10 => .array .int
  | 11 => .array .int
  | 12 => .int
  | 13 => .int
  | 14 => .array .byte
  | 15 => .int
  | 16 => .array .int
  | 17 => .array .int
  | 18 => .int
  | 19 => .int
  | 20 => .int
  | 21 => .int
  | 22 => .int
  | 23 => .int
  | 24 => .int
  | 25 => .array .byte
  | 26 => .array .int
  | 27 => .array .int
  | 28 => .array .int
  | 29 => .array .int
  | 30 => .array .int
  | 31 => .array .int
  | 32 => .array .int
  | 33 => .array .int
  | 34 => .array .int
  | 35 => .array .boolean
  | 36 => .array .int
  | 37 => .int
  | 38 => .int
  | 39 => .array .int
  | 40 => .array .int
  | 41 => .array .int
  | 42 => .array .int
  | 43 => .int
  | 44 => .int
  | 45 => .int
  | 46 => .array .int
  | 47 => .array .int
  | 48 => .int
  | 49 => .int
  | 50 => .array .int
  | 51 => .array .int
  | 52 => .array .int
  | 53 => .array .int
  | 54 => .array .int
  | 55 => .int
  | 56 => .array .int
  | 57 => .array .int
  | 58 => .boolean
  | 59 => .int
  | 60 => .array .int
  | 61 => .array .int
  | 62 => .array .int
  | 63 => .int
  | 64 => .array .int
  | 65 => .array .int
  | 66 => .array .int
  | 67 => .int
  | 68 => .array .int
  | 69 => .int
  | 70 => .array .int
  | 71 => .array .int
  | 72 => .array .int
  | 73 => .int
  | 74 => .int
  | 75 => .int
  | 76 => .boolean
  | 77 => .int
  | 78 => .int
  | 79 => .int
  | 80 => .int
  | 81 => .int
  | 82 => .int
  | 83 => .int
  | 84 => .int
  | 85 => .array .int
  | 86 => .array .int
  | 87 => .int
  | 88 => .array .int
  | 89 => .array .int
  | 90 => .array .int
  | 91 => .int
  | 92 => .array .int
  | 93 => .array .int
  | 94 => .array .int
  | 95 => .int
  | 96 => .int
  | 97 => .int
  | 98 => .array .int
  | 99 => .int
  | 100 => .int
  | 101 => .int
  | 102 => .boolean
  | 103 => .int
  | 104 => .int
  | 105 => .boolean
  | 106 => .int
  | 107 => .array .int
  | 108 => .array .int
  | 109 => .array .byte
  | 110 => .array .int
  | 111 => .array .int
  | 112 => .array .int
  | 113 => .array .int
  | 114 => .int
  | 115 => .array .byte
  | 116 => .array .int
  | 117 => .int
  | _ => .array .byte
abbrev wsX120 : List Cond := u_ws RX12 TX12 119
theorem nmX12 : ∀ a, a < 119 → ∀ b, b < 119 → a ≠ b → (TX12 a).2.1 ≠ (TX12 b).2.1 := by decide +kernel
theorem tyX12_ok : ∀ k, k < 119 → parseFieldDescriptor (TX12 k).2.2.1 = some (tyX12 k) := by decide +kernel
abbrev cX12_init : ByteArray := prog_14_method_1_code
def yX12_init : MethodName := ⟨RX12, "<init>", "()V"⟩
abbrev cX12_nameOf : ByteArray := prog_14_method_3_code
def yX12_nameOf : MethodName := ⟨RX12, "nameOf", "(II)I"⟩
abbrev cX12_isText : ByteArray := prog_14_method_4_code
def yX12_isText : MethodName := ⟨RX12, "isText", "(IIJJ)Z"⟩
abbrev cX12_keyword : ByteArray := prog_14_method_5_code
def yX12_keyword : MethodName := ⟨RX12, "keyword", "(II)I"⟩
abbrev cX12_isLetter : ByteArray := prog_14_method_6_code
def yX12_isLetter : MethodName := ⟨RX12, "isLetter", "(I)Z"⟩
abbrev cX12_isDigit : ByteArray := prog_14_method_7_code
def yX12_isDigit : MethodName := ⟨RX12, "isDigit", "(I)Z"⟩
abbrev cX12_isRest : ByteArray := prog_14_method_8_code
def yX12_isRest : MethodName := ⟨RX12, "isRest", "(I)Z"⟩
abbrev cX12_look : ByteArray := prog_14_method_9_code
def yX12_look : MethodName := ⟨RX12, "look", "(I)I"⟩
abbrev cX12_endsLine : ByteArray := prog_14_method_10_code
def yX12_endsLine : MethodName := ⟨RX12, "endsLine", "(I)Z"⟩
abbrev cX12_isBeginning : ByteArray := prog_14_method_11_code
def yX12_isBeginning : MethodName := ⟨RX12, "isBeginning", "(I)Z"⟩
abbrev cX12_isDoless : ByteArray := prog_14_method_12_code
def yX12_isDoless : MethodName := ⟨RX12, "isDoless", "(I)Z"⟩
abbrev cX12_token : ByteArray := prog_14_method_13_code
def yX12_token : MethodName := ⟨RX12, "token", "(III)V"⟩
abbrev cX12_oneC : ByteArray := prog_14_method_14_code
def yX12_oneC : MethodName := ⟨RX12, "oneC", "(II)I"⟩
abbrev cX12_stringAt : ByteArray := prog_14_method_15_code
def yX12_stringAt : MethodName := ⟨RX12, "stringAt", "(I)I"⟩
abbrev cX12_digits : ByteArray := prog_14_method_16_code
def yX12_digits : MethodName := ⟨RX12, "digits", "(II)I"⟩
abbrev cX12_isPair : ByteArray := prog_14_method_17_code
def yX12_isPair : MethodName := ⟨RX12, "isPair", "(III)Z"⟩
abbrev cX12_signAt : ByteArray := prog_14_method_18_code
def yX12_signAt : MethodName := ⟨RX12, "signAt", "(I)I"⟩
abbrev cX12_scan : ByteArray := prog_14_method_19_code
def yX12_scan : MethodName := ⟨RX12, "scan", "()I"⟩
abbrev cX12_one : ByteArray := prog_14_method_20_code
def yX12_one : MethodName := ⟨RX12, "one", "(II)I"⟩
abbrev cX12_node : ByteArray := prog_14_method_21_code
def yX12_node : MethodName := ⟨RX12, "node", "(III)I"⟩
abbrev cX12_leaf : ByteArray := prog_14_method_22_code
def yX12_leaf : MethodName := ⟨RX12, "leaf", "(III)V"⟩
abbrev cX12_shut : ByteArray := prog_14_method_23_code
def yX12_shut : MethodName := ⟨RX12, "shut", "(IIII)I"⟩
abbrev cX12_pairs : ByteArray := prog_14_method_24_code
def yX12_pairs : MethodName := ⟨RX12, "pairs", "(I)V"⟩
abbrev cX12_goal : ByteArray := prog_14_method_25_code
def yX12_goal : MethodName := ⟨RX12, "goal", "(IIII)V"⟩
abbrev cX12_tk : ByteArray := prog_14_method_26_code
def yX12_tk : MethodName := ⟨RX12, "tk", "()I"⟩
abbrev cX12_tkNext : ByteArray := prog_14_method_27_code
def yX12_tkNext : MethodName := ⟨RX12, "tkNext", "()I"⟩
abbrev cX12_take : ByteArray := prog_14_method_28_code
def yX12_take : MethodName := ⟨RX12, "take", "(I)Z"⟩
abbrev cX12_deeper : ByteArray := prog_14_method_29_code
def yX12_deeper : MethodName := ⟨RX12, "deeper", "()Z"⟩
abbrev cX12_isD : ByteArray := prog_14_method_30_code
def yX12_isD : MethodName := ⟨RX12, "isD", "(I)Z"⟩
abbrev cX12_openSection : ByteArray := prog_14_method_31_code
def yX12_openSection : MethodName := ⟨RX12, "openSection", "()Z"⟩
abbrev cX12_shutSection : ByteArray := prog_14_method_32_code
def yX12_shutSection : MethodName := ⟨RX12, "shutSection", "()Z"⟩
abbrev cX12_parse : ByteArray := prog_14_method_33_code
def yX12_parse : MethodName := ⟨RX12, "parse", "()Z"⟩
abbrev cX12_reach : ByteArray := prog_14_method_34_code
def yX12_reach : MethodName := ⟨RX12, "reach", "(IIII)Z"⟩
abbrev cX12_reachD : ByteArray := prog_14_method_35_code
def yX12_reachD : MethodName := ⟨RX12, "reachD", "(IIII)Z"⟩
abbrev cX12_reachP : ByteArray := prog_14_method_36_code
def yX12_reachP : MethodName := ⟨RX12, "reachP", "(I)Z"⟩
abbrev cX12_beginsE : ByteArray := prog_14_method_37_code
def yX12_beginsE : MethodName := ⟨RX12, "beginsE", "(I)Z"⟩
abbrev cX12_reachC : ByteArray := prog_14_method_38_code
def yX12_reachC : MethodName := ⟨RX12, "reachC", "(IIII)Z"⟩
abbrev cX12_labels : ByteArray := prog_14_method_39_code
def yX12_labels : MethodName := ⟨RX12, "labels", "(I)V"⟩
abbrev cX12_command : ByteArray := prog_14_method_40_code
def yX12_command : MethodName := ⟨RX12, "command", "(III)Z"⟩
abbrev cX12_levelOf : ByteArray := prog_14_method_41_code
def yX12_levelOf : MethodName := ⟨RX12, "levelOf", "(I)I"⟩
abbrev cX12_reachE : ByteArray := prog_14_method_42_code
def yX12_reachE : MethodName := ⟨RX12, "reachE", "(IIII)Z"⟩
abbrev cX12_calls : ByteArray := prog_14_method_43_code
def yX12_calls : MethodName := ⟨RX12, "calls", "(III)Z"⟩
abbrev cX12_primary : ByteArray := prog_14_method_44_code
def yX12_primary : MethodName := ⟨RX12, "primary", "(II)Z"⟩
abbrev cX12_binary : ByteArray := prog_14_method_45_code
def yX12_binary : MethodName := ⟨RX12, "binary", "(III)V"⟩
abbrev cX12_fault : ByteArray := prog_14_method_46_code
def yX12_fault : MethodName := ⟨RX12, "fault", "(II)V"⟩
abbrev cX12_place : ByteArray := prog_14_method_47_code
def yX12_place : MethodName := ⟨RX12, "place", "(I)I"⟩
abbrev cX12_means : ByteArray := prog_14_method_48_code
def yX12_means : MethodName := ⟨RX12, "means", "(I)I"⟩
abbrev cX12_entry : ByteArray := prog_14_method_49_code
def yX12_entry : MethodName := ⟨RX12, "entry", "(IIIII)I"⟩
abbrev cX12_declare : ByteArray := prog_14_method_50_code
def yX12_declare : MethodName := ⟨RX12, "declare", "(IIIIII)I"⟩
abbrev cX12_tokenOfTwice : ByteArray := prog_14_method_51_code
def yX12_tokenOfTwice : MethodName := ⟨RX12, "tokenOfTwice", "(II)I"⟩
abbrev cX12_isK : ByteArray := prog_14_method_52_code
def yX12_isK : MethodName := ⟨RX12, "isK", "(I)Z"⟩
abbrev cX12_isKName : ByteArray := prog_14_method_53_code
def yX12_isKName : MethodName := ⟨RX12, "isKName", "(I)Z"⟩
abbrev cX12_shifted : ByteArray := prog_14_method_54_code
def yX12_shifted : MethodName := ⟨RX12, "shifted", "(IIZ)I"⟩
abbrev cX12_quotient : ByteArray := prog_14_method_55_code
def yX12_quotient : MethodName := ⟨RX12, "quotient", "(II)I"⟩
abbrev cX12_remainder : ByteArray := prog_14_method_56_code
def yX12_remainder : MethodName := ⟨RX12, "remainder", "(II)I"⟩
abbrev cX12_worked : ByteArray := prog_14_method_57_code
def yX12_worked : MethodName := ⟨RX12, "worked", "(III)I"⟩
abbrev cX12_related : ByteArray := prog_14_method_58_code
def yX12_related : MethodName := ⟨RX12, "related", "(III)Z"⟩
abbrev cX12_signed : ByteArray := prog_14_method_59_code
def yX12_signed : MethodName := ⟨RX12, "signed", "(II)I"⟩
abbrev cX12_constant : ByteArray := prog_14_method_60_code
def yX12_constant : MethodName := ⟨RX12, "constant", "(I)V"⟩
abbrev cX12_later : ByteArray := prog_14_method_61_code
def yX12_later : MethodName := ⟨RX12, "later", "(II)I"⟩
abbrev cX12_task : ByteArray := prog_14_method_62_code
def yX12_task : MethodName := ⟨RX12, "task", "(III)V"⟩
abbrev cX12_put : ByteArray := prog_14_method_63_code
def yX12_put : MethodName := ⟨RX12, "put", "(I)V"⟩
abbrev cX12_pull : ByteArray := prog_14_method_64_code
def yX12_pull : MethodName := ⟨RX12, "pull", "()I"⟩
abbrev cX12_init_ : ByteArray := prog_14_method_65_code
def yX12_init_ : MethodName := ⟨RX12, "init", "(II)V"⟩
abbrev cX12_children : ByteArray := prog_14_method_66_code
def yX12_children : MethodName := ⟨RX12, "children", "(II)V"⟩
abbrev cX12_turn : ByteArray := prog_14_method_67_code
def yX12_turn : MethodName := ⟨RX12, "turn", "(I)V"⟩
abbrev cX12_library : ByteArray := prog_14_method_68_code
def yX12_library : MethodName := ⟨RX12, "library", "()V"⟩
abbrev cX12_lib : ByteArray := prog_14_method_69_code
def yX12_lib : MethodName := ⟨RX12, "lib", "(JJI)V"⟩
abbrev cX12_check : ByteArray := prog_14_method_70_code
def yX12_check : MethodName := ⟨RX12, "check", "()V"⟩
abbrev cX12_go : ByteArray := prog_14_method_71_code
def yX12_go : MethodName := ⟨RX12, "go", "(III)V"⟩
abbrev cX12_nameToken : ByteArray := prog_14_method_72_code
def yX12_nameToken : MethodName := ⟨RX12, "nameToken", "(I)I"⟩
abbrev cX12_declaration : ByteArray := prog_14_method_73_code
def yX12_declaration : MethodName := ⟨RX12, "declaration", "(I)V"⟩
abbrev cX12_letRoutines : ByteArray := prog_14_method_74_code
def yX12_letRoutines : MethodName := ⟨RX12, "letRoutines", "(I)V"⟩
abbrev cX12_routineOf : ByteArray := prog_14_method_75_code
def yX12_routineOf : MethodName := ⟨RX12, "routineOf", "(II)V"⟩
abbrev cX12_routineEnds : ByteArray := prog_14_method_76_code
def yX12_routineEnds : MethodName := ⟨RX12, "routineEnds", "(I)V"⟩
abbrev cX12_uses : ByteArray := prog_14_method_77_code
def yX12_uses : MethodName := ⟨RX12, "uses", "(I)V"⟩
abbrev cX12_varsEnd : ByteArray := prog_14_method_78_code
def yX12_varsEnd : MethodName := ⟨RX12, "varsEnd", "(I)V"⟩
abbrev cX12_blockEnds : ByteArray := prog_14_method_79_code
def yX12_blockEnds : MethodName := ⟨RX12, "blockEnds", "(I)V"⟩
abbrev cX12_beginBlock : ByteArray := prog_14_method_80_code
def yX12_beginBlock : MethodName := ⟨RX12, "beginBlock", "()V"⟩
abbrev cX12_labelsOf : ByteArray := prog_14_method_81_code
def yX12_labelsOf : MethodName := ⟨RX12, "labelsOf", "(I)V"⟩
abbrev cX12_forName : ByteArray := prog_14_method_82_code
def yX12_forName : MethodName := ⟨RX12, "forName", "(I)V"⟩
abbrev cX12_switchOf : ByteArray := prog_14_method_83_code
def yX12_switchOf : MethodName := ⟨RX12, "switchOf", "(I)V"⟩
abbrev cX12_isTwice : ByteArray := prog_14_method_84_code
def yX12_isTwice : MethodName := ⟨RX12, "isTwice", "(II)Z"⟩
abbrev cX12_part : ByteArray := prog_14_method_85_code
def yX12_part : MethodName := ⟨RX12, "part", "(I)V"⟩
abbrev cX12_commandOf : ByteArray := prog_14_method_86_code
def yX12_commandOf : MethodName := ⟨RX12, "commandOf", "(I)V"⟩
abbrev cX12_goesTo : ByteArray := prog_14_method_87_code
def yX12_goesTo : MethodName := ⟨RX12, "goesTo", "(I)V"⟩
abbrev cX12_named : ByteArray := prog_14_method_88_code
def yX12_named : MethodName := ⟨RX12, "named", "(I)I"⟩
abbrev cX12_placeOf : ByteArray := prog_14_method_89_code
def yX12_placeOf : MethodName := ⟨RX12, "placeOf", "(IZ)V"⟩
abbrev cX12_expressionOf : ByteArray := prog_14_method_90_code
def yX12_expressionOf : MethodName := ⟨RX12, "expressionOf", "(I)V"⟩
abbrev cX12_string : ByteArray := prog_14_method_91_code
def yX12_string : MethodName := ⟨RX12, "string", "(I)V"⟩
abbrev cX12_longer : ByteArray := prog_14_method_92_code
def yX12_longer : MethodName := ⟨RX12, "longer", "([I)[I"⟩
abbrev cX12_todoTask : ByteArray := prog_14_method_93_code
def yX12_todoTask : MethodName := ⟨RX12, "todoTask", "(III)V"⟩
abbrev cX12_err : ByteArray := prog_14_method_94_code
def yX12_err : MethodName := ⟨RX12, "err", "(I)V"⟩
abbrev cX12_burns : ByteArray := prog_14_method_95_code
def yX12_burns : MethodName := ⟨RX12, "burns", "()Z"⟩
abbrev cX12_push : ByteArray := prog_14_method_96_code
def yX12_push : MethodName := ⟨RX12, "push", "(I)V"⟩
abbrev cX12_pop : ByteArray := prog_14_method_97_code
def yX12_pop : MethodName := ⟨RX12, "pop", "()I"⟩
abbrev cX12_read : ByteArray := prog_14_method_98_code
def yX12_read : MethodName := ⟨RX12, "read", "(J)I"⟩
abbrev cX12_write : ByteArray := prog_14_method_99_code
def yX12_write : MethodName := ⟨RX12, "write", "(JI)V"⟩
abbrev cX12_wordOf : ByteArray := prog_14_method_100_code
def yX12_wordOf : MethodName := ⟨RX12, "wordOf", "(I)I"⟩
abbrev cX12_evaluate : ByteArray := prog_14_method_101_code
def yX12_evaluate : MethodName := ⟨RX12, "evaluate", "(I)V"⟩
abbrev cX12_turnTodo : ByteArray := prog_14_method_102_code
def yX12_turnTodo : MethodName := ⟨RX12, "turnTodo", "(I)V"⟩
abbrev cX12_address : ByteArray := prog_14_method_103_code
def yX12_address : MethodName := ⟨RX12, "address", "(I)V"⟩
abbrev cX12_bin : ByteArray := prog_14_method_104_code
def yX12_bin : MethodName := ⟨RX12, "bin", "(I)V"⟩
abbrev cX12_rel : ByteArray := prog_14_method_105_code
def yX12_rel : MethodName := ⟨RX12, "rel", "(II)V"⟩
abbrev cX12_limit : ByteArray := prog_14_method_106_code
def yX12_limit : MethodName := ⟨RX12, "limit", "()I"⟩
abbrev cX12_enter : ByteArray := prog_14_method_107_code
def yX12_enter : MethodName := ⟨RX12, "enter", "(III)V"⟩
abbrev cX12_call : ByteArray := prog_14_method_108_code
def yX12_call : MethodName := ⟨RX12, "call", "(II)V"⟩
abbrev cX12_arg : ByteArray := prog_14_method_109_code
def yX12_arg : MethodName := ⟨RX12, "arg", "(II)I"⟩
abbrev cX12_outByte : ByteArray := prog_14_method_110_code
def yX12_outByte : MethodName := ⟨RX12, "outByte", "(I)V"⟩
abbrev cX12_decimal : ByteArray := prog_14_method_111_code
def yX12_decimal : MethodName := ⟨RX12, "decimal", "(II)V"⟩
abbrev cX12_nextByte : ByteArray := prog_14_method_112_code
def yX12_nextByte : MethodName := ⟨RX12, "nextByte", "()I"⟩
abbrev cX12_peek : ByteArray := prog_14_method_113_code
def yX12_peek : MethodName := ⟨RX12, "peek", "()I"⟩
abbrev cX12_readNumber : ByteArray := prog_14_method_114_code
def yX12_readNumber : MethodName := ⟨RX12, "readNumber", "()I"⟩
abbrev cX12_isBlank : ByteArray := prog_14_method_115_code
def yX12_isBlank : MethodName := ⟨RX12, "isBlank", "(I)Z"⟩
abbrev cX12_rowsOf : ByteArray := prog_14_method_116_code
def yX12_rowsOf : MethodName := ⟨RX12, "rowsOf", "(I)V"⟩
abbrev cX12_writeString : ByteArray := prog_14_method_117_code
def yX12_writeString : MethodName := ⟨RX12, "writeString", "(I)V"⟩
abbrev cX12_getVector : ByteArray := prog_14_method_118_code
def yX12_getVector : MethodName := ⟨RX12, "getVector", "(I)I"⟩
abbrev cX12_layVector : ByteArray := prog_14_method_119_code
def yX12_layVector : MethodName := ⟨RX12, "layVector", "(IJJI)I"⟩
abbrev cX12_freeVector : ByteArray := prog_14_method_120_code
def yX12_freeVector : MethodName := ⟨RX12, "freeVector", "(I)V"⟩
abbrev cX12_toVector : ByteArray := prog_14_method_121_code
def yX12_toVector : MethodName := ⟨RX12, "toVector", "(III)V"⟩
abbrev cX12_libraryCall : ByteArray := prog_14_method_122_code
def yX12_libraryCall : MethodName := ⟨RX12, "libraryCall", "(III)V"⟩
abbrev cX12_perform : ByteArray := prog_14_method_123_code
def yX12_perform : MethodName := ⟨RX12, "perform", "(I)V"⟩
abbrev cX12_assign : ByteArray := prog_14_method_124_code
def yX12_assign : MethodName := ⟨RX12, "assign", "(II)V"⟩
abbrev cX12_stores : ByteArray := prog_14_method_125_code
def yX12_stores : MethodName := ⟨RX12, "stores", "(I)V"⟩
abbrev cX12_loop : ByteArray := prog_14_method_126_code
def yX12_loop : MethodName := ⟨RX12, "loop", "(II)V"⟩
abbrev cX12_isStep : ByteArray := prog_14_method_127_code
def yX12_isStep : MethodName := ⟨RX12, "isStep", "(III)Z"⟩
abbrev cX12_asked : ByteArray := prog_14_method_128_code
def yX12_asked : MethodName := ⟨RX12, "asked", "(I)V"⟩
abbrev cX12_section : ByteArray := prog_14_method_129_code
def yX12_section : MethodName := ⟨RX12, "section", "(II)V"⟩
abbrev cX12_variables : ByteArray := prog_14_method_130_code
def yX12_variables : MethodName := ⟨RX12, "variables", "(I)V"⟩
abbrev cX12_choose : ByteArray := prog_14_method_131_code
def yX12_choose : MethodName := ⟨RX12, "choose", "(I)V"⟩
abbrev cX12_doNext : ByteArray := prog_14_method_132_code
def yX12_doNext : MethodName := ⟨RX12, "doNext", "()V"⟩
abbrev cX12_returns : ByteArray := prog_14_method_133_code
def yX12_returns : MethodName := ⟨RX12, "returns", "(II)V"⟩
abbrev cX12_feed : ByteArray := prog_14_method_134_code
def yX12_feed : MethodName := ⟨RX12, "feed", "(IIIII)Z"⟩
abbrev cX12_end : ByteArray := prog_14_method_135_code
def yX12_end : MethodName := ⟨RX12, "end", "(I)Z"⟩
abbrev cX12_compile : ByteArray := prog_14_method_136_code
def yX12_compile : MethodName := ⟨RX12, "compile", "()I"⟩
abbrev cX12_fault_ : ByteArray := prog_14_method_137_code
def yX12_fault_ : MethodName := ⟨RX12, "fault", "()I"⟩
abbrev cX12_store : ByteArray := prog_14_method_138_code
def yX12_store : MethodName := ⟨RX12, "store", "(I)Z"⟩
abbrev cX12_input : ByteArray := prog_14_method_139_code
def yX12_input : MethodName := ⟨RX12, "input", "(I)I"⟩
abbrev cX12_run : ByteArray := prog_14_method_140_code
def yX12_run : MethodName := ⟨RX12, "run", "(I)I"⟩
abbrev cX12_value : ByteArray := prog_14_method_141_code
def yX12_value : MethodName := ⟨RX12, "value", "()I"⟩
abbrev cX12_out : ByteArray := prog_14_method_142_code
def yX12_out : MethodName := ⟨RX12, "out", "(I)I"⟩
abbrev cX12_outAt : ByteArray := prog_14_method_143_code
def yX12_outAt : MethodName := ⟨RX12, "outAt", "(II)I"⟩
abbrev cX12_word : ByteArray := prog_14_method_144_code
def yX12_word : MethodName := ⟨RX12, "word", "(I)I"⟩
abbrev cX12_fuel : ByteArray := prog_14_method_145_code
def yX12_fuel : MethodName := ⟨RX12, "fuel", "()I"⟩
def RJx145de : String := "java/io/Serializable"
def TJx145de : u_T := fun k => match k with
  | _ => ("", "", "", false)
def tyJx145de : Nat → FieldType := fun k => match k with
  | _ => .int
abbrev wsJx145de0 : List Cond := u_ws RJx145de TJx145de 0
theorem nmJx145de : ∀ a, a < 0 → ∀ b, b < 0 → a ≠ b → (TJx145de a).2.1 ≠ (TJx145de b).2.1 := by decide +kernel
theorem tyJx145de_ok : ∀ k, k < 0 → parseFieldDescriptor (TJx145de k).2.2.1 = some (tyJx145de k) := by decide +kernel
def RJx9f9b0 : String := "java/lang/CharSequence"
def TJx9f9b0 : u_T := fun k => match k with
  | _ => ("", "", "", false)
def tyJx9f9b0 : Nat → FieldType := fun k => match k with
  | _ => .int
abbrev wsJx9f9b00 : List Cond := u_ws RJx9f9b0 TJx9f9b0 0
theorem nmJx9f9b0 : ∀ a, a < 0 → ∀ b, b < 0 → a ≠ b → (TJx9f9b0 a).2.1 ≠ (TJx9f9b0 b).2.1 := by decide +kernel
theorem tyJx9f9b0_ok : ∀ k, k < 0 → parseFieldDescriptor (TJx9f9b0 k).2.2.1 = some (tyJx9f9b0 k) := by decide +kernel
def RJx8e188 : String := "java/lang/Cloneable"
def TJx8e188 : u_T := fun k => match k with
  | _ => ("", "", "", false)
def tyJx8e188 : Nat → FieldType := fun k => match k with
  | _ => .int
abbrev wsJx8e1880 : List Cond := u_ws RJx8e188 TJx8e188 0
theorem nmJx8e188 : ∀ a, a < 0 → ∀ b, b < 0 → a ≠ b → (TJx8e188 a).2.1 ≠ (TJx8e188 b).2.1 := by decide +kernel
theorem tyJx8e188_ok : ∀ k, k < 0 → parseFieldDescriptor (TJx8e188 k).2.2.1 = some (tyJx8e188 k) := by decide +kernel
def RJxb160c : String := "java/lang/Comparable"
def TJxb160c : u_T := fun k => match k with
  | _ => ("", "", "", false)
def tyJxb160c : Nat → FieldType := fun k => match k with
  | _ => .int
abbrev wsJxb160c0 : List Cond := u_ws RJxb160c TJxb160c 0
theorem nmJxb160c : ∀ a, a < 0 → ∀ b, b < 0 → a ≠ b → (TJxb160c a).2.1 ≠ (TJxb160c b).2.1 := by decide +kernel
theorem tyJxb160c_ok : ∀ k, k < 0 → parseFieldDescriptor (TJxb160c k).2.2.1 = some (tyJxb160c k) := by decide +kernel
def RJ6 : String := "java/lang/Integer"
def TJ6 : u_T := fun k => match k with
  | _ => ("", "", "", false)
def tyJ6 : Nat → FieldType := fun k => match k with
  | _ => .int
abbrev wsJ60 : List Cond := u_ws RJ6 TJ6 0
theorem nmJ6 : ∀ a, a < 0 → ∀ b, b < 0 → a ≠ b → (TJ6 a).2.1 ≠ (TJ6 b).2.1 := by decide +kernel
theorem tyJ6_ok : ∀ k, k < 0 → parseFieldDescriptor (TJ6 k).2.2.1 = some (tyJ6 k) := by decide +kernel
abbrev cJ6_bitCount_0f7a4 : ByteArray := prog_21_method_49_code
def yJ6_bitCount_0f7a4 : MethodName := ⟨RJ6, "bitCount", "(I)I"⟩
def RJ9 : String := "java/lang/Math"
def TJ9 : u_T := fun k => match k with
  | _ => ("", "", "", false)
def tyJ9 : Nat → FieldType := fun k => match k with
  | _ => .int
abbrev wsJ90 : List Cond := u_ws RJ9 TJ9 0
theorem nmJ9 : ∀ a, a < 0 → ∀ b, b < 0 → a ≠ b → (TJ9 a).2.1 ≠ (TJ9 b).2.1 := by decide +kernel
theorem tyJ9_ok : ∀ k, k < 0 → parseFieldDescriptor (TJ9 k).2.2.1 = some (tyJ9 k) := by decide +kernel
abbrev cJ9_abs_067f4 : ByteArray := prog_22_method_61_code
def yJ9_abs_067f4 : MethodName := ⟨RJ9, "abs", "(J)J"⟩
abbrev cJ9_max_7cf53 : ByteArray := prog_22_method_65_code
def yJ9_max_7cf53 : MethodName := ⟨RJ9, "max", "(II)I"⟩
abbrev cJ9_min_7cf53 : ByteArray := prog_22_method_69_code
def yJ9_min_7cf53 : MethodName := ⟨RJ9, "min", "(II)I"⟩
abbrev cJ9_min_f86c9 : ByteArray := prog_22_method_70_code
def yJ9_min_f86c9 : MethodName := ⟨RJ9, "min", "(JJ)J"⟩
def RJ0 : String := "java/lang/String"
def TJ0 : u_T := fun k => match k with
  | _ => ("", "", "", false)
def tyJ0 : Nat → FieldType := fun k => match k with
  | _ => .int
abbrev wsJ00 : List Cond := u_ws RJ0 TJ0 0
theorem nmJ0 : ∀ a, a < 0 → ∀ b, b < 0 → a ≠ b → (TJ0 a).2.1 ≠ (TJ0 b).2.1 := by decide +kernel
theorem tyJ0_ok : ∀ k, k < 0 → parseFieldDescriptor (TJ0 k).2.2.1 = some (tyJ0 k) := by decide +kernel
abbrev cJ0_length_8abf5 : ByteArray := prog_24_method_54_code
def yJ0_length_8abf5 : MethodName := ⟨RJ0, "length", "()I"⟩
abbrev cJ0_charAt_5068e : ByteArray := prog_24_method_56_code
def yJ0_charAt_5068e : MethodName := ⟨RJ0, "charAt", "(I)C"⟩
abbrev cJ0_coder_7d493 : ByteArray := prog_24_method_152_code
def yJ0_coder_7d493 : MethodName := ⟨RJ0, "coder", "()B"⟩
abbrev cJ0_isLatin1_aae02 : ByteArray := prog_24_method_154_code
def yJ0_isLatin1_aae02 : MethodName := ⟨RJ0, "isLatin1", "()Z"⟩
abbrev cJ0_checkIndex_df160 : ByteArray := prog_24_method_155_code
def yJ0_checkIndex_df160 : MethodName := ⟨RJ0, "checkIndex", "(II)V"⟩
def RJ1 : String := "java/lang/StringLatin1"
def TJ1 : u_T := fun k => match k with
  | _ => ("", "", "", false)
def tyJ1 : Nat → FieldType := fun k => match k with
  | _ => .int
abbrev wsJ10 : List Cond := u_ws RJ1 TJ1 0
theorem nmJ1 : ∀ a, a < 0 → ∀ b, b < 0 → a ≠ b → (TJ1 a).2.1 ≠ (TJ1 b).2.1 := by decide +kernel
theorem tyJ1_ok : ∀ k, k < 0 → parseFieldDescriptor (TJ1 k).2.2.1 = some (tyJ1 k) := by decide +kernel
abbrev cJ1_charAt_3b067 : ByteArray := prog_25_method_2_code
def yJ1_charAt_3b067 : MethodName := ⟨RJ1, "charAt", "([BI)C"⟩
def RJ2 : String := "java/lang/StringUTF16"
def TJ2 : u_T := fun k => match k with
  | _ => ("", "", "", false)
def tyJ2 : Nat → FieldType := fun k => match k with
  | _ => .int
abbrev wsJ20 : List Cond := u_ws RJ2 TJ2 0
theorem nmJ2 : ∀ a, a < 0 → ∀ b, b < 0 → a ≠ b → (TJ2 a).2.1 ≠ (TJ2 b).2.1 := by decide +kernel
theorem tyJ2_ok : ∀ k, k < 0 → parseFieldDescriptor (TJ2 k).2.2.1 = some (tyJ2 k) := by decide +kernel
abbrev cJ2_getChar_3b067 : ByteArray := prog_26_method_5_code
def yJ2_getChar_3b067 : MethodName := ⟨RJ2, "getChar", "([BI)C"⟩
abbrev cJ2_length_9d52b : ByteArray := prog_26_method_6_code
def yJ2_length_9d52b : MethodName := ⟨RJ2, "length", "([B)I"⟩
abbrev cJ2_charAt_3b067 : ByteArray := prog_26_method_83_code
def yJ2_charAt_3b067 : MethodName := ⟨RJ2, "charAt", "([BI)C"⟩
abbrev cJ2_checkIndex_2214a : ByteArray := prog_26_method_91_code
def yJ2_checkIndex_2214a : MethodName := ⟨RJ2, "checkIndex", "(I[B)V"⟩
def RJ10 : String := "java/lang/System"
def TJ10 : u_T := fun k => match k with
  | _ => ("", "", "", false)
def tyJ10 : Nat → FieldType := fun k => match k with
  | _ => .int
abbrev wsJ100 : List Cond := u_ws RJ10 TJ10 0
theorem nmJ10 : ∀ a, a < 0 → ∀ b, b < 0 → a ≠ b → (TJ10 a).2.1 ≠ (TJ10 b).2.1 := by decide +kernel
theorem tyJ10_ok : ∀ k, k < 0 → parseFieldDescriptor (TJ10 k).2.2.1 = some (tyJ10 k) := by decide +kernel
def RJxfd54e : String := "java/lang/constant/Constable"
def TJxfd54e : u_T := fun k => match k with
  | _ => ("", "", "", false)
def tyJxfd54e : Nat → FieldType := fun k => match k with
  | _ => .int
abbrev wsJxfd54e0 : List Cond := u_ws RJxfd54e TJxfd54e 0
theorem nmJxfd54e : ∀ a, a < 0 → ∀ b, b < 0 → a ≠ b → (TJxfd54e a).2.1 ≠ (TJxfd54e b).2.1 := by decide +kernel
theorem tyJxfd54e_ok : ∀ k, k < 0 → parseFieldDescriptor (TJxfd54e k).2.2.1 = some (tyJxfd54e k) := by decide +kernel
def RJx3cf43 : String := "java/lang/constant/ConstantDesc"
def TJx3cf43 : u_T := fun k => match k with
  | _ => ("", "", "", false)
def tyJx3cf43 : Nat → FieldType := fun k => match k with
  | _ => .int
abbrev wsJx3cf430 : List Cond := u_ws RJx3cf43 TJx3cf43 0
theorem nmJx3cf43 : ∀ a, a < 0 → ∀ b, b < 0 → a ≠ b → (TJx3cf43 a).2.1 ≠ (TJx3cf43 b).2.1 := by decide +kernel
theorem tyJx3cf43_ok : ∀ k, k < 0 → parseFieldDescriptor (TJx3cf43 k).2.2.1 = some (tyJx3cf43 k) := by decide +kernel
def RJ7 : String := "java/util/Arrays"
def TJ7 : u_T := fun k => match k with
  | _ => ("", "", "", false)
def tyJ7 : Nat → FieldType := fun k => match k with
  | _ => .int
abbrev wsJ70 : List Cond := u_ws RJ7 TJ7 0
theorem nmJ7 : ∀ a, a < 0 → ∀ b, b < 0 → a ≠ b → (TJ7 a).2.1 ≠ (TJ7 b).2.1 := by decide +kernel
theorem tyJ7_ok : ∀ k, k < 0 → parseFieldDescriptor (TJ7 k).2.2.1 = some (tyJ7 k) := by decide +kernel
abbrev cJ7_fill_53178 : ByteArray := prog_31_method_103_code
def yJ7_fill_53178 : MethodName := ⟨RJ7, "fill", "([II)V"⟩
abbrev cJ7_copyOf_59c91 : ByteArray := prog_31_method_123_code
def yJ7_copyOf_59c91 : MethodName := ⟨RJ7, "copyOf", "([II)[I"⟩
def RJ3 : String := "jdk/internal/util/Preconditions"
def TJ3 : u_T := fun k => match k with
  | _ => ("", "", "", false)
def tyJ3 : Nat → FieldType := fun k => match k with
  | _ => .int
abbrev wsJ30 : List Cond := u_ws RJ3 TJ3 0
theorem nmJ3 : ∀ a, a < 0 → ∀ b, b < 0 → a ≠ b → (TJ3 a).2.1 ≠ (TJ3 b).2.1 := by decide +kernel
theorem tyJ3_ok : ∀ k, k < 0 → parseFieldDescriptor (TJ3 k).2.2.1 = some (tyJ3 k) := by decide +kernel
abbrev cJ3_checkIndex_8e157 : ByteArray := prog_33_method_11_code
def yJ3_checkIndex_8e157 : MethodName := ⟨RJ3, "checkIndex", "(IILjava/util/function/BiFunction;)I"⟩
def RL : String := "WordTongueLaw"
abbrev cL_outAt : ByteArray := method_3_code
def yL_outAt : MethodName := ⟨RL, "outAt", "(LWordTongue;II[J)I"⟩
abbrev cL_word : ByteArray := method_4_code
def yL_word : MethodName := ⟨RL, "word", "(LWordTongue;I[J)I"⟩
abbrev cL_law : ByteArray := code
def yL_law : MethodName := ⟨RL, "law", "([I)Z"⟩
abbrev vwCl : List vw_C := [(RX0, TX0, 5), (RX1, TX1, 19), (RX2, TX2, 7), (RX3, TX3, 2), (RX4, TX4, 3), (RX5, TX5, 16), (RX6, TX6, 12), (RX7, TX7, 11), (RX8, TX8, 11), (RX9, TX9, 8), (RX10, TX10, 7), (RX11, TX11, 10), (RX12, TX12, 119)]
