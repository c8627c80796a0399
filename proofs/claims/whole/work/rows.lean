section
-- ===== PART A: goes FIRST, ahead of the names: the tables' words, and 'selects' of the private methods out of them =====
/-- a private method of a class that the tables say can be made, by its rows of tables_1 -/
def lw_okq (q : MethodName × Nat) : Prop := (q.1.cls ≠ "java/lang/invoke/MethodHandle" ∧ q.1.cls ≠ "java/lang/invoke/VarHandle") ∧ Cond.instantiable q.1.cls q.2 ∈ tables_1 ∧ Cond.privateMethod q.1 ∈ tables_1 ∧ Cond.instanceMethod q.1 ∈ tables_1
theorem lw_p0 : lw_okq (⟨"QueryGraph", "kindIn", "(II)I"⟩, 6) := ⟨⟨by decide +kernel, by decide +kernel⟩, List.mem_of_getElem? (i := 14) (by decide +kernel), List.mem_of_getElem? (i := 314) (by decide +kernel), List.mem_of_getElem? (i := 315) (by decide +kernel)⟩
theorem lw_p1 : lw_okq (⟨"QueryGraph$Plan", "writeOut", "(ILQueryGraph$Step;)Z"⟩, 6) := ⟨⟨by decide +kernel, by decide +kernel⟩, List.mem_of_getElem? (i := 95) (by decide +kernel), List.mem_of_getElem? (i := 395) (by decide +kernel), List.mem_of_getElem? (i := 396) (by decide +kernel)⟩
theorem lw_p2 : lw_okq (⟨"QueryGraph$Plan", "takeStep", "(ILQueryGraph$Step;)LQueryGraph$Step;"⟩, 6) := ⟨⟨by decide +kernel, by decide +kernel⟩, List.mem_of_getElem? (i := 95) (by decide +kernel), List.mem_of_getElem? (i := 399) (by decide +kernel), List.mem_of_getElem? (i := 400) (by decide +kernel)⟩
theorem lw_p3 : lw_okq (⟨"QueryGraph$Plan", "isRight", "(LQueryGraph$Step;I)Z"⟩, 6) := ⟨⟨by decide +kernel, by decide +kernel⟩, List.mem_of_getElem? (i := 95) (by decide +kernel), List.mem_of_getElem? (i := 403) (by decide +kernel), List.mem_of_getElem? (i := 404) (by decide +kernel)⟩
theorem lw_p4 : lw_okq (⟨"QueryGraph$Plan", "findField", "(LQueryGraph$Step;I)Z"⟩, 6) := ⟨⟨by decide +kernel, by decide +kernel⟩, List.mem_of_getElem? (i := 95) (by decide +kernel), List.mem_of_getElem? (i := 407) (by decide +kernel), List.mem_of_getElem? (i := 408) (by decide +kernel)⟩
theorem lw_p5 : lw_okq (⟨"QueryGraph$Plan", "typeBehind", "(LQueryGraph$Step;I)I"⟩, 6) := ⟨⟨by decide +kernel, by decide +kernel⟩, List.mem_of_getElem? (i := 95) (by decide +kernel), List.mem_of_getElem? (i := 417) (by decide +kernel), List.mem_of_getElem? (i := 418) (by decide +kernel)⟩
theorem lw_p6 : lw_okq (⟨"QueryGraph$Asking", "workOutObject", "(ILQueryGraph$Step;I)Z"⟩, 7) := ⟨⟨by decide +kernel, by decide +kernel⟩, List.mem_of_getElem? (i := 176) (by decide +kernel), List.mem_of_getElem? (i := 448) (by decide +kernel), List.mem_of_getElem? (i := 449) (by decide +kernel)⟩
theorem lw_p7 : lw_okq (⟨"QueryGraph$Asking", "collectEntries", "(ILQueryGraph$Step;I)LQueryGraph$Step;"⟩, 7) := ⟨⟨by decide +kernel, by decide +kernel⟩, List.mem_of_getElem? (i := 176) (by decide +kernel), List.mem_of_getElem? (i := 452) (by decide +kernel), List.mem_of_getElem? (i := 453) (by decide +kernel)⟩
theorem lw_p8 : lw_okq (⟨"QueryGraph$Collector", "enter", "(LQueryGraph$Step;)V"⟩, 5) := ⟨⟨by decide +kernel, by decide +kernel⟩, List.mem_of_getElem? (i := 178) (by decide +kernel), List.mem_of_getElem? (i := 465) (by decide +kernel), List.mem_of_getElem? (i := 466) (by decide +kernel)⟩
theorem lw_p9 : lw_okq (⟨"QueryGraph$Collector", "entryNamed", "(I)LQueryGraph$Step;"⟩, 5) := ⟨⟨by decide +kernel, by decide +kernel⟩, List.mem_of_getElem? (i := 178) (by decide +kernel), List.mem_of_getElem? (i := 469) (by decide +kernel), List.mem_of_getElem? (i := 470) (by decide +kernel)⟩
theorem lw_p10 : lw_okq (⟨"QueryGraph$Collector", "addEntry", "(LQueryGraph$Step;)V"⟩, 5) := ⟨⟨by decide +kernel, by decide +kernel⟩, List.mem_of_getElem? (i := 178) (by decide +kernel), List.mem_of_getElem? (i := 473) (by decide +kernel), List.mem_of_getElem? (i := 474) (by decide +kernel)⟩
theorem lw_p11 : lw_okq (⟨"QueryGraph$Collector", "isPassedOver", "(LQueryGraph$Step;I)Z"⟩, 5) := ⟨⟨by decide +kernel, by decide +kernel⟩, List.mem_of_getElem? (i := 178) (by decide +kernel), List.mem_of_getElem? (i := 480) (by decide +kernel), List.mem_of_getElem? (i := 481) (by decide +kernel)⟩
theorem lw_p12 : lw_okq (⟨"QueryGraph$Asking", "addCode", "(I)V"⟩, 7) := ⟨⟨by decide +kernel, by decide +kernel⟩, List.mem_of_getElem? (i := 176) (by decide +kernel), List.mem_of_getElem? (i := 487) (by decide +kernel), List.mem_of_getElem? (i := 488) (by decide +kernel)⟩
theorem lw_p13 : lw_okq (⟨"QueryGraph$Asking", "workOutValue", "(ILQueryGraph$Step;I)Z"⟩, 7) := ⟨⟨by decide +kernel, by decide +kernel⟩, List.mem_of_getElem? (i := 176) (by decide +kernel), List.mem_of_getElem? (i := 495) (by decide +kernel), List.mem_of_getElem? (i := 496) (by decide +kernel)⟩
theorem lw_p14 : lw_okq (⟨"QueryGraph$Asking", "workOutLink", "(ILQueryGraph$Step;I)Z"⟩, 7) := ⟨⟨by decide +kernel, by decide +kernel⟩, List.mem_of_getElem? (i := 176) (by decide +kernel), List.mem_of_getElem? (i := 499) (by decide +kernel), List.mem_of_getElem? (i := 500) (by decide +kernel)⟩
theorem lw_p15 : lw_okq (⟨"QueryGraph$Asking", "workOutNothing", "(LQueryGraph$Step;)Z"⟩, 7) := ⟨⟨by decide +kernel, by decide +kernel⟩, List.mem_of_getElem? (i := 176) (by decide +kernel), List.mem_of_getElem? (i := 504) (by decide +kernel), List.mem_of_getElem? (i := 505) (by decide +kernel)⟩
def lw_privs_1 : List (MethodName × Nat) := [(⟨"QueryGraph", "kindIn", "(II)I"⟩, 6), (⟨"QueryGraph$Plan", "writeOut", "(ILQueryGraph$Step;)Z"⟩, 6), (⟨"QueryGraph$Plan", "takeStep", "(ILQueryGraph$Step;)LQueryGraph$Step;"⟩, 6), (⟨"QueryGraph$Plan", "isRight", "(LQueryGraph$Step;I)Z"⟩, 6), (⟨"QueryGraph$Plan", "findField", "(LQueryGraph$Step;I)Z"⟩, 6), (⟨"QueryGraph$Plan", "typeBehind", "(LQueryGraph$Step;I)I"⟩, 6), (⟨"QueryGraph$Asking", "workOutObject", "(ILQueryGraph$Step;I)Z"⟩, 7), (⟨"QueryGraph$Asking", "collectEntries", "(ILQueryGraph$Step;I)LQueryGraph$Step;"⟩, 7), (⟨"QueryGraph$Collector", "enter", "(LQueryGraph$Step;)V"⟩, 5), (⟨"QueryGraph$Collector", "entryNamed", "(I)LQueryGraph$Step;"⟩, 5), (⟨"QueryGraph$Collector", "addEntry", "(LQueryGraph$Step;)V"⟩, 5), (⟨"QueryGraph$Collector", "isPassedOver", "(LQueryGraph$Step;I)Z"⟩, 5), (⟨"QueryGraph$Asking", "addCode", "(I)V"⟩, 7), (⟨"QueryGraph$Asking", "workOutValue", "(ILQueryGraph$Step;I)Z"⟩, 7), (⟨"QueryGraph$Asking", "workOutLink", "(ILQueryGraph$Step;I)Z"⟩, 7), (⟨"QueryGraph$Asking", "workOutNothing", "(LQueryGraph$Step;)Z"⟩, 7)]
theorem lw_r1 : ∀ q ∈ lw_privs_1, lw_okq q := List.forall_mem_cons.mpr ⟨lw_p0, List.forall_mem_cons.mpr ⟨lw_p1, List.forall_mem_cons.mpr ⟨lw_p2, List.forall_mem_cons.mpr ⟨lw_p3, List.forall_mem_cons.mpr ⟨lw_p4, List.forall_mem_cons.mpr ⟨lw_p5, List.forall_mem_cons.mpr ⟨lw_p6, List.forall_mem_cons.mpr ⟨lw_p7, List.forall_mem_cons.mpr ⟨lw_p8, List.forall_mem_cons.mpr ⟨lw_p9, List.forall_mem_cons.mpr ⟨lw_p10, List.forall_mem_cons.mpr ⟨lw_p11, List.forall_mem_cons.mpr ⟨lw_p12, List.forall_mem_cons.mpr ⟨lw_p13, List.forall_mem_cons.mpr ⟨lw_p14, List.forall_mem_cons.mpr ⟨lw_p15, fun _ h => absurd h List.not_mem_nil⟩⟩⟩⟩⟩⟩⟩⟩⟩⟩⟩⟩⟩⟩⟩⟩
theorem lw_p16 : lw_okq (⟨"QueryGraph$Asking", "workOutMany", "(ILQueryGraph$Step;I)Z"⟩, 7) := ⟨⟨by decide +kernel, by decide +kernel⟩, List.mem_of_getElem? (i := 176) (by decide +kernel), List.mem_of_getElem? (i := 519) (by decide +kernel), List.mem_of_getElem? (i := 520) (by decide +kernel)⟩
theorem lw_p17 : lw_okq (⟨"QueryGraph$Asking", "workOutNumber", "(ILQueryGraph$Step;)Z"⟩, 7) := ⟨⟨by decide +kernel, by decide +kernel⟩, List.mem_of_getElem? (i := 176) (by decide +kernel), List.mem_of_getElem? (i := 528) (by decide +kernel), List.mem_of_getElem? (i := 529) (by decide +kernel)⟩
theorem lw_p18 : lw_okq (⟨"QueryGraph$Asking", "cutBack", "(I)V"⟩, 7) := ⟨⟨by decide +kernel, by decide +kernel⟩, List.mem_of_getElem? (i := 176) (by decide +kernel), List.mem_of_getElem? (i := 536) (by decide +kernel), List.mem_of_getElem? (i := 537) (by decide +kernel)⟩
theorem lw_p19 : lw_okq (⟨"QueryGraphModel", "badField", "(II)Z"⟩, 36) := ⟨⟨by decide +kernel, by decide +kernel⟩, List.mem_of_getElem? (i := 557) (by decide +kernel), List.mem_of_getElem? (i := 691) (by decide +kernel), List.mem_of_getElem? (i := 692) (by decide +kernel)⟩
theorem lw_p20 : lw_okq (⟨"QueryGraphModel", "of", "(III)I"⟩, 36) := ⟨⟨by decide +kernel, by decide +kernel⟩, List.mem_of_getElem? (i := 557) (by decide +kernel), List.mem_of_getElem? (i := 695) (by decide +kernel), List.mem_of_getElem? (i := 696) (by decide +kernel)⟩
theorem lw_p21 : lw_okq (⟨"QueryGraphModel", "checked", "(I)Z"⟩, 36) := ⟨⟨by decide +kernel, by decide +kernel⟩, List.mem_of_getElem? (i := 557) (by decide +kernel), List.mem_of_getElem? (i := 726) (by decide +kernel), List.mem_of_getElem? (i := 727) (by decide +kernel)⟩
theorem lw_p22 : lw_okq (⟨"QueryGraphModel", "good", "(I)Z"⟩, 36) := ⟨⟨by decide +kernel, by decide +kernel⟩, List.mem_of_getElem? (i := 557) (by decide +kernel), List.mem_of_getElem? (i := 730) (by decide +kernel), List.mem_of_getElem? (i := 731) (by decide +kernel)⟩
theorem lw_p23 : lw_okq (⟨"QueryGraphModel", "opens", "(I)Z"⟩, 36) := ⟨⟨by decide +kernel, by decide +kernel⟩, List.mem_of_getElem? (i := 557) (by decide +kernel), List.mem_of_getElem? (i := 734) (by decide +kernel), List.mem_of_getElem? (i := 735) (by decide +kernel)⟩
theorem lw_p24 : lw_okq (⟨"QueryGraphModel", "enter", "(II)V"⟩, 36) := ⟨⟨by decide +kernel, by decide +kernel⟩, List.mem_of_getElem? (i := 557) (by decide +kernel), List.mem_of_getElem? (i := 738) (by decide +kernel), List.mem_of_getElem? (i := 739) (by decide +kernel)⟩
theorem lw_p25 : lw_okq (⟨"QueryGraphModel", "right", "(II)Z"⟩, 36) := ⟨⟨by decide +kernel, by decide +kernel⟩, List.mem_of_getElem? (i := 557) (by decide +kernel), List.mem_of_getElem? (i := 742) (by decide +kernel), List.mem_of_getElem? (i := 743) (by decide +kernel)⟩
theorem lw_p26 : lw_okq (⟨"QueryGraphModel", "fieldRight", "(II)Z"⟩, 36) := ⟨⟨by decide +kernel, by decide +kernel⟩, List.mem_of_getElem? (i := 557) (by decide +kernel), List.mem_of_getElem? (i := 746) (by decide +kernel), List.mem_of_getElem? (i := 747) (by decide +kernel)⟩
theorem lw_p27 : lw_okq (⟨"QueryGraphModel", "through", "(I)I"⟩, 36) := ⟨⟨by decide +kernel, by decide +kernel⟩, List.mem_of_getElem? (i := 557) (by decide +kernel), List.mem_of_getElem? (i := 750) (by decide +kernel), List.mem_of_getElem? (i := 751) (by decide +kernel)⟩
theorem lw_p28 : lw_okq (⟨"QueryGraphModel", "begin", "(I)I"⟩, 36) := ⟨⟨by decide +kernel, by decide +kernel⟩, List.mem_of_getElem? (i := 557) (by decide +kernel), List.mem_of_getElem? (i := 762) (by decide +kernel), List.mem_of_getElem? (i := 763) (by decide +kernel)⟩
theorem lw_p29 : lw_okq (⟨"QueryGraphModel", "collectOne", "(II)Z"⟩, 36) := ⟨⟨by decide +kernel, by decide +kernel⟩, List.mem_of_getElem? (i := 557) (by decide +kernel), List.mem_of_getElem? (i := 766) (by decide +kernel), List.mem_of_getElem? (i := 767) (by decide +kernel)⟩
theorem lw_p30 : lw_okq (⟨"QueryGraphModel", "take", "(II)Z"⟩, 36) := ⟨⟨by decide +kernel, by decide +kernel⟩, List.mem_of_getElem? (i := 557) (by decide +kernel), List.mem_of_getElem? (i := 770) (by decide +kernel), List.mem_of_getElem? (i := 771) (by decide +kernel)⟩
theorem lw_p31 : lw_okq (⟨"QueryGraphModel", "addSet", "(III)V"⟩, 36) := ⟨⟨by decide +kernel, by decide +kernel⟩, List.mem_of_getElem? (i := 557) (by decide +kernel), List.mem_of_getElem? (i := 774) (by decide +kernel), List.mem_of_getElem? (i := 775) (by decide +kernel)⟩
def lw_privs_2 : List (MethodName × Nat) := [(⟨"QueryGraph$Asking", "workOutMany", "(ILQueryGraph$Step;I)Z"⟩, 7), (⟨"QueryGraph$Asking", "workOutNumber", "(ILQueryGraph$Step;)Z"⟩, 7), (⟨"QueryGraph$Asking", "cutBack", "(I)V"⟩, 7), (⟨"QueryGraphModel", "badField", "(II)Z"⟩, 36), (⟨"QueryGraphModel", "of", "(III)I"⟩, 36), (⟨"QueryGraphModel", "checked", "(I)Z"⟩, 36), (⟨"QueryGraphModel", "good", "(I)Z"⟩, 36), (⟨"QueryGraphModel", "opens", "(I)Z"⟩, 36), (⟨"QueryGraphModel", "enter", "(II)V"⟩, 36), (⟨"QueryGraphModel", "right", "(II)Z"⟩, 36), (⟨"QueryGraphModel", "fieldRight", "(II)Z"⟩, 36), (⟨"QueryGraphModel", "through", "(I)I"⟩, 36), (⟨"QueryGraphModel", "begin", "(I)I"⟩, 36), (⟨"QueryGraphModel", "collectOne", "(II)Z"⟩, 36), (⟨"QueryGraphModel", "take", "(II)Z"⟩, 36), (⟨"QueryGraphModel", "addSet", "(III)V"⟩, 36)]
theorem lw_r2 : ∀ q ∈ lw_privs_2, lw_okq q := List.forall_mem_cons.mpr ⟨lw_p16, List.forall_mem_cons.mpr ⟨lw_p17, List.forall_mem_cons.mpr ⟨lw_p18, List.forall_mem_cons.mpr ⟨lw_p19, List.forall_mem_cons.mpr ⟨lw_p20, List.forall_mem_cons.mpr ⟨lw_p21, List.forall_mem_cons.mpr ⟨lw_p22, List.forall_mem_cons.mpr ⟨lw_p23, List.forall_mem_cons.mpr ⟨lw_p24, List.forall_mem_cons.mpr ⟨lw_p25, List.forall_mem_cons.mpr ⟨lw_p26, List.forall_mem_cons.mpr ⟨lw_p27, List.forall_mem_cons.mpr ⟨lw_p28, List.forall_mem_cons.mpr ⟨lw_p29, List.forall_mem_cons.mpr ⟨lw_p30, List.forall_mem_cons.mpr ⟨lw_p31, fun _ h => absurd h List.not_mem_nil⟩⟩⟩⟩⟩⟩⟩⟩⟩⟩⟩⟩⟩⟩⟩⟩
theorem lw_p32 : lw_okq (⟨"QueryGraphModel", "behind", "(I)I"⟩, 36) := ⟨⟨by decide +kernel, by decide +kernel⟩, List.mem_of_getElem? (i := 557) (by decide +kernel), List.mem_of_getElem? (i := 778) (by decide +kernel), List.mem_of_getElem? (i := 779) (by decide +kernel)⟩
theorem lw_p33 : lw_okq (⟨"QueryGraphModel", "say", "(I)I"⟩, 36) := ⟨⟨by decide +kernel, by decide +kernel⟩, List.mem_of_getElem? (i := 557) (by decide +kernel), List.mem_of_getElem? (i := 782) (by decide +kernel), List.mem_of_getElem? (i := 783) (by decide +kernel)⟩
theorem lw_p34 : lw_okq (⟨"QueryGraphModel", "step", "()I"⟩, 36) := ⟨⟨by decide +kernel, by decide +kernel⟩, List.mem_of_getElem? (i := 557) (by decide +kernel), List.mem_of_getElem? (i := 786) (by decide +kernel), List.mem_of_getElem? (i := 787) (by decide +kernel)⟩
theorem lw_p35 : lw_okq (⟨"QueryGraphModel", "endObject", "()I"⟩, 36) := ⟨⟨by decide +kernel, by decide +kernel⟩, List.mem_of_getElem? (i := 557) (by decide +kernel), List.mem_of_getElem? (i := 790) (by decide +kernel), List.mem_of_getElem? (i := 791) (by decide +kernel)⟩
theorem lw_p36 : lw_okq (⟨"QueryGraphModel", "nothing", "(IZ)V"⟩, 36) := ⟨⟨by decide +kernel, by decide +kernel⟩, List.mem_of_getElem? (i := 557) (by decide +kernel), List.mem_of_getElem? (i := 794) (by decide +kernel), List.mem_of_getElem? (i := 795) (by decide +kernel)⟩
theorem lw_p37 : lw_okq (⟨"QueryGraphModel", "entry", "(I)I"⟩, 36) := ⟨⟨by decide +kernel, by decide +kernel⟩, List.mem_of_getElem? (i := 557) (by decide +kernel), List.mem_of_getElem? (i := 798) (by decide +kernel), List.mem_of_getElem? (i := 799) (by decide +kernel)⟩
theorem lw_p38 : lw_okq (⟨"QueryGraphModel", "note", "()V"⟩, 36) := ⟨⟨by decide +kernel, by decide +kernel⟩, List.mem_of_getElem? (i := 557) (by decide +kernel), List.mem_of_getElem? (i := 802) (by decide +kernel), List.mem_of_getElem? (i := 803) (by decide +kernel)⟩
theorem lw_p39 : lw_okq (⟨"QueryGraphModel", "kindAt", "(I)I"⟩, 36) := ⟨⟨by decide +kernel, by decide +kernel⟩, List.mem_of_getElem? (i := 557) (by decide +kernel), List.mem_of_getElem? (i := 806) (by decide +kernel), List.mem_of_getElem? (i := 807) (by decide +kernel)⟩
theorem lw_p40 : lw_okq (⟨"QueryGraphModel", "manyStep", "(I)I"⟩, 36) := ⟨⟨by decide +kernel, by decide +kernel⟩, List.mem_of_getElem? (i := 557) (by decide +kernel), List.mem_of_getElem? (i := 810) (by decide +kernel), List.mem_of_getElem? (i := 811) (by decide +kernel)⟩
theorem lw_p41 : lw_okq (⟨"QueryGraphModel", "plain", "(II)I"⟩, 36) := ⟨⟨by decide +kernel, by decide +kernel⟩, List.mem_of_getElem? (i := 557) (by decide +kernel), List.mem_of_getElem? (i := 814) (by decide +kernel), List.mem_of_getElem? (i := 815) (by decide +kernel)⟩
def lw_privs_3 : List (MethodName × Nat) := [(⟨"QueryGraphModel", "behind", "(I)I"⟩, 36), (⟨"QueryGraphModel", "say", "(I)I"⟩, 36), (⟨"QueryGraphModel", "step", "()I"⟩, 36), (⟨"QueryGraphModel", "endObject", "()I"⟩, 36), (⟨"QueryGraphModel", "nothing", "(IZ)V"⟩, 36), (⟨"QueryGraphModel", "entry", "(I)I"⟩, 36), (⟨"QueryGraphModel", "note", "()V"⟩, 36), (⟨"QueryGraphModel", "kindAt", "(I)I"⟩, 36), (⟨"QueryGraphModel", "manyStep", "(I)I"⟩, 36), (⟨"QueryGraphModel", "plain", "(II)I"⟩, 36)]
theorem lw_r3 : ∀ q ∈ lw_privs_3, lw_okq q := List.forall_mem_cons.mpr ⟨lw_p32, List.forall_mem_cons.mpr ⟨lw_p33, List.forall_mem_cons.mpr ⟨lw_p34, List.forall_mem_cons.mpr ⟨lw_p35, List.forall_mem_cons.mpr ⟨lw_p36, List.forall_mem_cons.mpr ⟨lw_p37, List.forall_mem_cons.mpr ⟨lw_p38, List.forall_mem_cons.mpr ⟨lw_p39, List.forall_mem_cons.mpr ⟨lw_p40, List.forall_mem_cons.mpr ⟨lw_p41, fun _ h => absurd h List.not_mem_nil⟩⟩⟩⟩⟩⟩⟩⟩⟩⟩
def lw_privs : List (MethodName × Nat) := lw_privs_1 ++ (lw_privs_2 ++ (lw_privs_3))
def lw_tbl : List Cond := k2_sels lw_privs ++ tables_1
theorem lw_privs_ok : ∀ q ∈ lw_privs, lw_okq q := by
  show ∀ q ∈ lw_privs_1 ++ (lw_privs_2 ++ (lw_privs_3)), lw_okq q
  exact List.forall_mem_append.mpr ⟨lw_r1, List.forall_mem_append.mpr ⟨lw_r2, lw_r3⟩⟩
-- names (by program out of the Statement and the listing)
def zG : List Cond := lw_tbl.filter goodWord
theorem zG_in {w : Cond} (i : Nat) (h : lw_tbl[i]? = some w) (hg : goodWord w = true) : w ∈ zG := List.mem_filter.mpr ⟨List.mem_of_getElem? h, hg⟩
theorem zG_sub {w : Cond} (h : w ∈ zG) : w ∈ lw_tbl := (List.mem_filter.mp h).1
theorem zG_good {w : Cond} (h : w ∈ zG) : (w.onTables && w.keeps) = true ∨ ∃ ty, w = .arrayClass ty := good_of_word (List.mem_filter.mp h).2
end
section
def R_G : String := "QueryGraph"
def R_Sc : String := "QueryGraph$Schema"
def R_Ro : String := "QueryGraph$Rows"
def R_Te : String := "QueryGraph$Texts"
def R_Pl : String := "QueryGraph$Plan"
def R_St : String := "QueryGraph$Step"
def R_Co : String := "QueryGraph$Collector"
def R_Pa : String := "QueryGraph$Places"
def R_As : String := "QueryGraph$Asking"
def R_Mo : String := "QueryGraphModel"
def R_L : String := "QueryGraphLaw"
def T_G : u_T := fun k => match k with
  | 0 => ("QueryGraph", "schema", "LQueryGraph$Schema;", true)
  | 1 => ("QueryGraph", "rows", "LQueryGraph$Rows;", true)
  | 2 => ("QueryGraph", "texts", "LQueryGraph$Texts;", true)
  | 3 => ("QueryGraph", "switches", "[I", true)
  | 4 => ("QueryGraph", "plan", "LQueryGraph$Plan;", true)
  | _ => ("QueryGraph", "asking", "LQueryGraph$Asking;", true)
def ty_G : Nat → FieldType := fun k => match k with
  | 0 => (.object "QueryGraph$Schema")
  | 1 => (.object "QueryGraph$Rows")
  | 2 => (.object "QueryGraph$Texts")
  | 3 => (.array .int)
  | 4 => (.object "QueryGraph$Plan")
  | _ => (.object "QueryGraph$Asking")
def T_Sc : u_T := fun k => match k with
  | 0 => ("QueryGraph$Schema", "fieldCounts", "[I", true)
  | 1 => ("QueryGraph$Schema", "kinds", "[I", true)
  | 2 => ("QueryGraph$Schema", "targets", "[I", true)
  | 3 => ("QueryGraph$Schema", "required", "[Z", true)
  | _ => ("QueryGraph$Schema", "typeCount", "I", false)
def ty_Sc : Nat → FieldType := fun k => match k with
  | 0 => (.array .int)
  | 1 => (.array .int)
  | 2 => (.array .int)
  | 3 => (.array .boolean)
  | _ => .int
def T_Ro : u_T := fun k => match k with
  | 0 => ("QueryGraph$Rows", "types", "[I", true)
  | 1 => ("QueryGraph$Rows", "numbers", "[I", true)
  | 2 => ("QueryGraph$Rows", "linkedCounts", "[I", true)
  | 3 => ("QueryGraph$Rows", "linked", "[I", true)
  | _ => ("QueryGraph$Rows", "rowCount", "I", false)
def ty_Ro : Nat → FieldType := fun k => match k with
  | 0 => (.array .int)
  | 1 => (.array .int)
  | 2 => (.array .int)
  | 3 => (.array .int)
  | _ => .int
def T_Te : u_T := fun k => match k with
  | 0 => ("QueryGraph$Texts", "lengths", "[I", true)
  | 1 => ("QueryGraph$Texts", "ops", "[I", true)
  | 2 => ("QueryGraph$Texts", "firsts", "[I", true)
  | _ => ("QueryGraph$Texts", "seconds", "[I", true)
def ty_Te : Nat → FieldType := fun k => match k with
  | 0 => (.array .int)
  | 1 => (.array .int)
  | 2 => (.array .int)
  | _ => (.array .int)
def T_Pl : u_T := fun k => match k with
  | 0 => ("QueryGraph$Plan", "schema", "LQueryGraph$Schema;", true)
  | 1 => ("QueryGraph$Plan", "texts", "LQueryGraph$Texts;", true)
  | 2 => ("QueryGraph$Plan", "steps", "[LQueryGraph$Step;", true)
  | 3 => ("QueryGraph$Plan", "busy", "[Z", true)
  | 4 => ("QueryGraph$Plan", "size", "I", false)
  | _ => ("QueryGraph$Plan", "wrongPlace", "I", false)
def ty_Pl : Nat → FieldType := fun k => match k with
  | 0 => (.object "QueryGraph$Schema")
  | 1 => (.object "QueryGraph$Texts")
  | 2 => (.array (.object "QueryGraph$Step"))
  | 3 => (.array .boolean)
  | 4 => .int
  | _ => .int
def T_St : u_T := fun k => match k with
  | 0 => ("QueryGraph$Step", "at", "I", true)
  | 1 => ("QueryGraph$Step", "op", "I", false)
  | 2 => ("QueryGraph$Step", "a", "I", false)
  | 3 => ("QueryGraph$Step", "b", "I", false)
  | 4 => ("QueryGraph$Step", "outer", "LQueryGraph$Step;", false)
  | 5 => ("QueryGraph$Step", "typeWithin", "I", false)
  | 6 => ("QueryGraph$Step", "close", "I", false)
  | 7 => ("QueryGraph$Step", "kind", "I", false)
  | 8 => ("QueryGraph$Step", "required", "Z", false)
  | 9 => ("QueryGraph$Step", "nextEntry", "LQueryGraph$Step;", false)
  | _ => ("QueryGraph$Step", "nextSet", "LQueryGraph$Step;", false)
def ty_St : Nat → FieldType := fun k => match k with
  | 0 => .int
  | 1 => .int
  | 2 => .int
  | 3 => .int
  | 4 => (.object "QueryGraph$Step")
  | 5 => .int
  | 6 => .int
  | 7 => .int
  | 8 => .boolean
  | 9 => (.object "QueryGraph$Step")
  | _ => (.object "QueryGraph$Step")
def T_Co : u_T := fun k => match k with
  | 0 => ("QueryGraph$Collector", "plan", "LQueryGraph$Plan;", true)
  | 1 => ("QueryGraph$Collector", "switches", "[I", true)
  | 2 => ("QueryGraph$Collector", "firstEntry", "LQueryGraph$Step;", false)
  | 3 => ("QueryGraph$Collector", "lastEntry", "LQueryGraph$Step;", false)
  | _ => ("QueryGraph$Collector", "clashed", "Z", false)
def ty_Co : Nat → FieldType := fun k => match k with
  | 0 => (.object "QueryGraph$Plan")
  | 1 => (.array .int)
  | 2 => (.object "QueryGraph$Step")
  | 3 => (.object "QueryGraph$Step")
  | _ => .boolean
def T_Pa : u_T := fun k => match k with
  | 0 => ("QueryGraph$Places", "here", "[I", true)
  | 1 => ("QueryGraph$Places", "lengths", "[I", true)
  | 2 => ("QueryGraph$Places", "parts", "[I", true)
  | 3 => ("QueryGraph$Places", "hereLength", "I", false)
  | _ => ("QueryGraph$Places", "placeCount", "I", false)
def ty_Pa : Nat → FieldType := fun k => match k with
  | 0 => (.array .int)
  | 1 => (.array .int)
  | 2 => (.array .int)
  | 3 => .int
  | _ => .int
def T_As : u_T := fun k => match k with
  | 0 => ("QueryGraph$Asking", "rows", "LQueryGraph$Rows;", true)
  | 1 => ("QueryGraph$Asking", "collector", "LQueryGraph$Collector;", true)
  | 2 => ("QueryGraph$Asking", "places", "LQueryGraph$Places;", true)
  | 3 => ("QueryGraph$Asking", "codes", "[I", true)
  | 4 => ("QueryGraph$Asking", "codeCount", "I", false)
  | 5 => ("QueryGraph$Asking", "workedOut", "I", false)
  | _ => ("QueryGraph$Asking", "stopped", "I", false)
def ty_As : Nat → FieldType := fun k => match k with
  | 0 => (.object "QueryGraph$Rows")
  | 1 => (.object "QueryGraph$Collector")
  | 2 => (.object "QueryGraph$Places")
  | 3 => (.array .int)
  | 4 => .int
  | 5 => .int
  | _ => .int
def T_Mo : u_T := fun k => match k with
  | 0 => ("QueryGraphModel", "types", "I", false)
  | 1 => ("QueryGraphModel", "fields", "[I", true)
  | 2 => ("QueryGraphModel", "field", "[I", true)
  | 3 => ("QueryGraphModel", "rows", "I", false)
  | 4 => ("QueryGraphModel", "typeOf", "[I", true)
  | 5 => ("QueryGraphModel", "many", "[I", true)
  | 6 => ("QueryGraphModel", "value", "[I", true)
  | 7 => ("QueryGraphModel", "switches", "[I", true)
  | 8 => ("QueryGraphModel", "length", "[I", true)
  | 9 => ("QueryGraphModel", "op", "[I", true)
  | 10 => ("QueryGraphModel", "first", "[I", true)
  | 11 => ("QueryGraphModel", "second", "[I", true)
  | 12 => ("QueryGraphModel", "place", "I", false)
  | 13 => ("QueryGraphModel", "open", "I", false)
  | 14 => ("QueryGraphModel", "expected", "[I", true)
  | 15 => ("QueryGraphModel", "back", "[I", true)
  | 16 => ("QueryGraphModel", "using", "[Z", true)
  | 17 => ("QueryGraphModel", "level", "I", false)
  | 18 => ("QueryGraphModel", "row", "[I", true)
  | 19 => ("QueryGraphModel", "entries", "[I", true)
  | 20 => ("QueryGraphModel", "name", "[I", true)
  | 21 => ("QueryGraphModel", "what", "[I", true)
  | 22 => ("QueryGraphModel", "which", "[I", true)
  | 23 => ("QueryGraphModel", "sets", "[I", true)
  | 24 => ("QueryGraphModel", "set", "[I", true)
  | 25 => ("QueryGraphModel", "setOf", "[I", true)
  | 26 => ("QueryGraphModel", "at", "[I", true)
  | 27 => ("QueryGraphModel", "inMany", "[I", true)
  | 28 => ("QueryGraphModel", "start", "[I", true)
  | 29 => ("QueryGraphModel", "bad", "[Z", true)
  | 30 => ("QueryGraphModel", "made", "I", false)
  | 31 => ("QueryGraphModel", "codes", "I", false)
  | 32 => ("QueryGraphModel", "code", "[I", true)
  | 33 => ("QueryGraphModel", "places", "I", false)
  | 34 => ("QueryGraphModel", "ends", "[I", true)
  | _ => ("QueryGraphModel", "part", "[I", true)
def ty_Mo : Nat → FieldType := fun k => match k with
  | 0 => .int
  | 1 => (.array .int)
  | 2 => (.array .int)
  | 3 => .int
  | 4 => (.array .int)
  | 5 => (.array .int)
  | 6 => (.array .int)
  | 7 => (.array .int)
  | 8 => (.array .int)
  | 9 => (.array .int)
  | 10 => (.array .int)
  | 11 => (.array .int)
  | 12 => .int
  | 13 => .int
  | 14 => (.array .int)
  | 15 => (.array .int)
  | 16 => (.array .boolean)
  | 17 => .int
  | 18 => (.array .int)
  | 19 => (.array .int)
  | 20 => (.array .int)
  | 21 => (.array .int)
  | 22 => (.array .int)
  | 23 => (.array .int)
  | 24 => (.array .int)
  | 25 => (.array .int)
  | 26 => (.array .int)
  | 27 => (.array .int)
  | 28 => (.array .int)
  | 29 => (.array .boolean)
  | 30 => .int
  | 31 => .int
  | 32 => (.array .int)
  | 33 => .int
  | 34 => (.array .int)
  | _ => (.array .int)
abbrev vwCl : List vw_C := [(R_G, T_G, 6), (R_Sc, T_Sc, 5), (R_Ro, T_Ro, 5), (R_Te, T_Te, 4), (R_Pl, T_Pl, 6), (R_St, T_St, 11), (R_Co, T_Co, 5), (R_Pa, T_Pa, 5), (R_As, T_As, 7), (R_Mo, T_Mo, 36)]
theorem nm_G : ∀ a, a < 6 → ∀ b, b < 6 → a ≠ b → (T_G a).2.1 ≠ (T_G b).2.1 := by decide +kernel
theorem tyok_G : ∀ k, k < 6 → parseFieldDescriptor (T_G k).2.2.1 = some (ty_G k) := by decide +kernel
set_option maxRecDepth 20000 in
theorem hin_G : ∀ w ∈ u_ws R_G T_G 6, w ∈ zG := by
  have h : u_ws R_G T_G 6 = [300, 302, 304, 306, 308, 310].filterMap (fun i => lw_tbl[i]?) := by decide +kernel
  have hg : (u_ws R_G T_G 6).all goodWord = true := by decide +kernel
  intro w hw
  have h2 := List.all_eq_true.mp hg w hw
  rw [h] at hw
  obtain ⟨i, -, hi⟩ := List.mem_filterMap.mp hw
  exact zG_in i hi h2
theorem nm_Sc : ∀ a, a < 5 → ∀ b, b < 5 → a ≠ b → (T_Sc a).2.1 ≠ (T_Sc b).2.1 := by decide +kernel
theorem tyok_Sc : ∀ k, k < 5 → parseFieldDescriptor (T_Sc k).2.2.1 = some (ty_Sc k) := by decide +kernel
set_option maxRecDepth 20000 in
theorem hin_Sc : ∀ w ∈ u_ws R_Sc T_Sc 5, w ∈ zG := by
  have h : u_ws R_Sc T_Sc 5 = [76, 78, 80, 82, 84].filterMap (fun i => lw_tbl[i]?) := by decide +kernel
  have hg : (u_ws R_Sc T_Sc 5).all goodWord = true := by decide +kernel
  intro w hw
  have h2 := List.all_eq_true.mp hg w hw
  rw [h] at hw
  obtain ⟨i, -, hi⟩ := List.mem_filterMap.mp hw
  exact zG_in i hi h2
theorem nm_Ro : ∀ a, a < 5 → ∀ b, b < 5 → a ≠ b → (T_Ro a).2.1 ≠ (T_Ro b).2.1 := by decide +kernel
theorem tyok_Ro : ∀ k, k < 5 → parseFieldDescriptor (T_Ro k).2.2.1 = some (ty_Ro k) := by decide +kernel
set_option maxRecDepth 20000 in
theorem hin_Ro : ∀ w ∈ u_ws R_Ro T_Ro 5, w ∈ zG := by
  have h : u_ws R_Ro T_Ro 5 = [101, 103, 105, 107, 109].filterMap (fun i => lw_tbl[i]?) := by decide +kernel
  have hg : (u_ws R_Ro T_Ro 5).all goodWord = true := by decide +kernel
  intro w hw
  have h2 := List.all_eq_true.mp hg w hw
  rw [h] at hw
  obtain ⟨i, -, hi⟩ := List.mem_filterMap.mp hw
  exact zG_in i hi h2
theorem nm_Te : ∀ a, a < 4 → ∀ b, b < 4 → a ≠ b → (T_Te a).2.1 ≠ (T_Te b).2.1 := by decide +kernel
theorem tyok_Te : ∀ k, k < 4 → parseFieldDescriptor (T_Te k).2.2.1 = some (ty_Te k) := by decide +kernel
set_option maxRecDepth 20000 in
theorem hin_Te : ∀ w ∈ u_ws R_Te T_Te 4, w ∈ zG := by
  have h : u_ws R_Te T_Te 4 = [127, 129, 131, 133].filterMap (fun i => lw_tbl[i]?) := by decide +kernel
  have hg : (u_ws R_Te T_Te 4).all goodWord = true := by decide +kernel
  intro w hw
  have h2 := List.all_eq_true.mp hg w hw
  rw [h] at hw
  obtain ⟨i, -, hi⟩ := List.mem_filterMap.mp hw
  exact zG_in i hi h2
theorem nm_Pl : ∀ a, a < 6 → ∀ b, b < 6 → a ≠ b → (T_Pl a).2.1 ≠ (T_Pl b).2.1 := by decide +kernel
theorem tyok_Pl : ∀ k, k < 6 → parseFieldDescriptor (T_Pl k).2.2.1 = some (ty_Pl k) := by decide +kernel
set_option maxRecDepth 20000 in
theorem hin_Pl : ∀ w ∈ u_ws R_Pl T_Pl 6, w ∈ zG := by
  have h : u_ws R_Pl T_Pl 6 = [204, 206, 208, 210, 212, 214].filterMap (fun i => lw_tbl[i]?) := by decide +kernel
  have hg : (u_ws R_Pl T_Pl 6).all goodWord = true := by decide +kernel
  intro w hw
  have h2 := List.all_eq_true.mp hg w hw
  rw [h] at hw
  obtain ⟨i, -, hi⟩ := List.mem_filterMap.mp hw
  exact zG_in i hi h2
theorem nm_St : ∀ a, a < 11 → ∀ b, b < 11 → a ≠ b → (T_St a).2.1 ≠ (T_St b).2.1 := by decide +kernel
theorem tyok_St : ∀ k, k < 11 → parseFieldDescriptor (T_St k).2.2.1 = some (ty_St k) := by decide +kernel
set_option maxRecDepth 20000 in
theorem hin_St : ∀ w ∈ u_ws R_St T_St 11, w ∈ zG := by
  have h : u_ws R_St T_St 11 = [173, 175, 177, 179, 181, 183, 185, 187, 189, 191, 193].filterMap (fun i => lw_tbl[i]?) := by decide +kernel
  have hg : (u_ws R_St T_St 11).all goodWord = true := by decide +kernel
  intro w hw
  have h2 := List.all_eq_true.mp hg w hw
  rw [h] at hw
  obtain ⟨i, -, hi⟩ := List.mem_filterMap.mp hw
  exact zG_in i hi h2
theorem nm_Co : ∀ a, a < 5 → ∀ b, b < 5 → a ≠ b → (T_Co a).2.1 ≠ (T_Co b).2.1 := by decide +kernel
theorem tyok_Co : ∀ k, k < 5 → parseFieldDescriptor (T_Co k).2.2.1 = some (ty_Co k) := by decide +kernel
set_option maxRecDepth 20000 in
theorem hin_Co : ∀ w ∈ u_ws R_Co T_Co 5, w ∈ zG := by
  have h : u_ws R_Co T_Co 5 = [231, 233, 235, 237, 239].filterMap (fun i => lw_tbl[i]?) := by decide +kernel
  have hg : (u_ws R_Co T_Co 5).all goodWord = true := by decide +kernel
  intro w hw
  have h2 := List.all_eq_true.mp hg w hw
  rw [h] at hw
  obtain ⟨i, -, hi⟩ := List.mem_filterMap.mp hw
  exact zG_in i hi h2
theorem nm_Pa : ∀ a, a < 5 → ∀ b, b < 5 → a ≠ b → (T_Pa a).2.1 ≠ (T_Pa b).2.1 := by decide +kernel
theorem tyok_Pa : ∀ k, k < 5 → parseFieldDescriptor (T_Pa k).2.2.1 = some (ty_Pa k) := by decide +kernel
set_option maxRecDepth 20000 in
theorem hin_Pa : ∀ w ∈ u_ws R_Pa T_Pa 5, w ∈ zG := by
  have h : u_ws R_Pa T_Pa 5 = [258, 260, 262, 264, 266].filterMap (fun i => lw_tbl[i]?) := by decide +kernel
  have hg : (u_ws R_Pa T_Pa 5).all goodWord = true := by decide +kernel
  intro w hw
  have h2 := List.all_eq_true.mp hg w hw
  rw [h] at hw
  obtain ⟨i, -, hi⟩ := List.mem_filterMap.mp hw
  exact zG_in i hi h2
theorem nm_As : ∀ a, a < 7 → ∀ b, b < 7 → a ≠ b → (T_As a).2.1 ≠ (T_As b).2.1 := by decide +kernel
theorem tyok_As : ∀ k, k < 7 → parseFieldDescriptor (T_As k).2.2.1 = some (ty_As k) := by decide +kernel
set_option maxRecDepth 20000 in
theorem hin_As : ∀ w ∈ u_ws R_As T_As 7, w ∈ zG := by
  have h : u_ws R_As T_As 7 = [279, 281, 283, 285, 287, 289, 291].filterMap (fun i => lw_tbl[i]?) := by decide +kernel
  have hg : (u_ws R_As T_As 7).all goodWord = true := by decide +kernel
  intro w hw
  have h2 := List.all_eq_true.mp hg w hw
  rw [h] at hw
  obtain ⟨i, -, hi⟩ := List.mem_filterMap.mp hw
  exact zG_in i hi h2
theorem nm_Mo : ∀ a, a < 36 → ∀ b, b < 36 → a ≠ b → (T_Mo a).2.1 ≠ (T_Mo b).2.1 := by decide +kernel
theorem tyok_Mo : ∀ k, k < 36 → parseFieldDescriptor (T_Mo k).2.2.1 = some (ty_Mo k) := by decide +kernel
set_option maxRecDepth 20000 in
theorem hin_Mo : ∀ w ∈ u_ws R_Mo T_Mo 36, w ∈ zG := by
  have h : u_ws R_Mo T_Mo 36 = [640, 642, 644, 646, 648, 650, 652, 654, 656, 658, 660, 662, 664, 666, 668, 670, 672, 674, 676, 678, 680, 682, 684, 686, 688, 690, 692, 694, 696, 698, 700, 702, 704, 706, 708, 710].filterMap (fun i => lw_tbl[i]?) := by decide +kernel
  have hg : (u_ws R_Mo T_Mo 36).all goodWord = true := by decide +kernel
  intro w hw
  have h2 := List.all_eq_true.mp hg w hw
  rw [h] at hw
  obtain ⟨i, -, hi⟩ := List.mem_filterMap.mp hw
  exact zG_in i hi h2
def fx_elem : String := "QueryGraph$Step"
def fx_isrL : List (List Bool) := [[true, true, true, true, true, true], [true, true, true, true, false], [true, true, true, true, false], [true, true, true, true], [true, true, true, true, false, false], [false, false, false, false, true, false, false, false, false, true, true], [true, true, true, true, false], [true, true, true, false, false], [true, true, true, true, false, false, false], [false, true, true, false, true, true, true, true, true, true, true, true, false, false, true, true, true, false, true, true, true, true, true, true, true, true, true, true, true, true, false, false, true, false, true, true]]
def fx_isr (ci k : Nat) : Bool := (fx_isrL.getD ci []).getD k false
def fx_lyL : List (Nat × Nat) := [(0, 6), (1, 5), (100, 5), (100, 20), (100, 20), (101, 20), (2, 5), (100, 12), (100, 48), (100, 48), (100, 192), (3, 4), (100, 4), (100, 64), (100, 64), (100, 64), (100, 4), (4, 6), (102, 61), (101, 4), (5, 11), (5, 11), (5, 11), (5, 11), (5, 11), (5, 11), (5, 11), (5, 11), (5, 11), (5, 11), (5, 11), (5, 11), (5, 11), (5, 11), (5, 11), (5, 11), (5, 11), (5, 11), (5, 11), (5, 11), (5, 11), (5, 11), (5, 11), (5, 11), (5, 11), (5, 11), (5, 11), (5, 11), (5, 11), (5, 11), (5, 11), (5, 11), (5, 11), (5, 11), (5, 11), (5, 11), (5, 11), (5, 11), (5, 11), (5, 11), (5, 11), (5, 11), (5, 11), (5, 11), (5, 11), (5, 11), (5, 11), (5, 11), (5, 11), (5, 11), (5, 11), (5, 11), (5, 11), (5, 11), (5, 11), (5, 11), (5, 11), (5, 11), (5, 11), (5, 11), (5, 11), (8, 7), (6, 5), (7, 5), (100, 26), (100, 60), (100, 1560), (100, 120), (9, 36), (100, 5), (100, 60), (100, 13), (100, 52), (100, 208), (100, 4), (100, 4), (100, 64), (100, 64), (100, 64), (100, 70), (100, 70), (101, 4), (100, 40), (100, 40), (100, 400), (100, 400), (100, 400), (100, 40), (100, 2600), (100, 2600), (100, 40), (100, 40), (100, 40), (101, 40), (100, 130), (100, 130), (100, 6000)]
def fx_ly (c : Int) : Nat × Nat := if c < 0 then (99, 0) else if 20 ≤ c ∧ c < 81 then (5, 11) else fx_lyL.getD c.toNat (99, 0)
/-- which slots stay as they are once the system stands: final fields; the array of the steps -/
def fx_kkL : List (List Bool) := [[true, true, true, true, true, true], [true, true, true, true, false], [true, true, true, true, false], [true, true, true, true], [true, true, true, true, false, false], [true, false, false, false, false, false, false, false, false, false, false], [true, true, false, false, false], [true, true, true, false, false], [true, true, true, true, false, false, false], [false, true, true, false, true, true, true, true, true, true, true, true, false, false, true, true, true, false, true, true, true, true, true, true, true, true, true, true, true, true, false, false, true, false, true, true]]
def fx_kk (ci : Nat) (k : Int) : Bool := if k < 0 then false else if ci = 102 then decide (k < 61) else (fx_kkL.getD ci []).getD k.toNat false
def fx_cvL : List (List Int) := [[1, 6, 11, 16, 17, 81], [2, 3, 4, 5, 0], [], [], [], [], [7, 8, 9, 10, 0], [], [], [], [], [12, 13, 14, 15], [], [], [], [], [], [1, 11, 18, 19, 0, 0], [], [], [], [], [], [], [], [], [], [], [], [], [], [], [], [], [], [], [], [], [], [], [], [], [], [], [], [], [], [], [], [], [], [], [], [], [], [], [], [], [], [], [], [], [], [], [], [], [], [], [], [], [], [], [], [], [], [], [], [], [], [], [], [6, 82, 83, 87, 0, 0, 0], [17, 16, 0, 0, 0], [84, 85, 86, 0, 0], [], [], [], [], [0, 89, 90, 0, 91, 92, 93, 94, 95, 96, 97, 98, 0, 0, 99, 100, 101, 0, 102, 103, 104, 105, 106, 107, 108, 109, 110, 111, 112, 113, 0, 0, 114, 0, 115, 116], [], [], [], [], [], [], [], [], [], [], [], [], [], [], [], [], [], [], [], [], [], [], [], [], [], [], [], []]
def fx_cv (c k : Int) : Int := if c = 18 then 20 + k else if 20 ≤ c ∧ c < 81 then c - 20 else (fx_cvL.getD c.toNat []).getD k.toNat 0
theorem ly_0 : fx_ly 0 = (0, 6) := by decide +kernel
theorem ly_1 : fx_ly 1 = (1, 5) := by decide +kernel
theorem ly_2 : fx_ly 2 = (100, 5) := by decide +kernel
theorem ly_3 : fx_ly 3 = (100, 20) := by decide +kernel
theorem ly_4 : fx_ly 4 = (100, 20) := by decide +kernel
theorem ly_5 : fx_ly 5 = (101, 20) := by decide +kernel
theorem ly_6 : fx_ly 6 = (2, 5) := by decide +kernel
theorem ly_7 : fx_ly 7 = (100, 12) := by decide +kernel
theorem ly_8 : fx_ly 8 = (100, 48) := by decide +kernel
theorem ly_9 : fx_ly 9 = (100, 48) := by decide +kernel
theorem ly_10 : fx_ly 10 = (100, 192) := by decide +kernel
theorem ly_11 : fx_ly 11 = (3, 4) := by decide +kernel
theorem ly_12 : fx_ly 12 = (100, 4) := by decide +kernel
theorem ly_13 : fx_ly 13 = (100, 64) := by decide +kernel
theorem ly_14 : fx_ly 14 = (100, 64) := by decide +kernel
theorem ly_15 : fx_ly 15 = (100, 64) := by decide +kernel
theorem ly_16 : fx_ly 16 = (100, 4) := by decide +kernel
theorem ly_17 : fx_ly 17 = (4, 6) := by decide +kernel
theorem ly_18 : fx_ly 18 = (102, 61) := by decide +kernel
theorem ly_19 : fx_ly 19 = (101, 4) := by decide +kernel
theorem ly_81 : fx_ly 81 = (8, 7) := by decide +kernel
theorem ly_82 : fx_ly 82 = (6, 5) := by decide +kernel
theorem ly_83 : fx_ly 83 = (7, 5) := by decide +kernel
theorem ly_84 : fx_ly 84 = (100, 26) := by decide +kernel
theorem ly_85 : fx_ly 85 = (100, 60) := by decide +kernel
theorem ly_86 : fx_ly 86 = (100, 1560) := by decide +kernel
theorem ly_87 : fx_ly 87 = (100, 120) := by decide +kernel
theorem ly_88 : fx_ly 88 = (9, 36) := by decide +kernel
theorem ly_89 : fx_ly 89 = (100, 5) := by decide +kernel
theorem ly_90 : fx_ly 90 = (100, 60) := by decide +kernel
theorem ly_91 : fx_ly 91 = (100, 13) := by decide +kernel
theorem ly_92 : fx_ly 92 = (100, 52) := by decide +kernel
theorem ly_93 : fx_ly 93 = (100, 208) := by decide +kernel
theorem ly_94 : fx_ly 94 = (100, 4) := by decide +kernel
theorem ly_95 : fx_ly 95 = (100, 4) := by decide +kernel
theorem ly_96 : fx_ly 96 = (100, 64) := by decide +kernel
theorem ly_97 : fx_ly 97 = (100, 64) := by decide +kernel
theorem ly_98 : fx_ly 98 = (100, 64) := by decide +kernel
theorem ly_99 : fx_ly 99 = (100, 70) := by decide +kernel
theorem ly_100 : fx_ly 100 = (100, 70) := by decide +kernel
theorem ly_101 : fx_ly 101 = (101, 4) := by decide +kernel
theorem ly_102 : fx_ly 102 = (100, 40) := by decide +kernel
theorem ly_103 : fx_ly 103 = (100, 40) := by decide +kernel
theorem ly_104 : fx_ly 104 = (100, 400) := by decide +kernel
theorem ly_105 : fx_ly 105 = (100, 400) := by decide +kernel
theorem ly_106 : fx_ly 106 = (100, 400) := by decide +kernel
theorem ly_107 : fx_ly 107 = (100, 40) := by decide +kernel
theorem ly_108 : fx_ly 108 = (100, 2600) := by decide +kernel
theorem ly_109 : fx_ly 109 = (100, 2600) := by decide +kernel
theorem ly_110 : fx_ly 110 = (100, 40) := by decide +kernel
theorem ly_111 : fx_ly 111 = (100, 40) := by decide +kernel
theorem ly_112 : fx_ly 112 = (100, 40) := by decide +kernel
theorem ly_113 : fx_ly 113 = (101, 40) := by decide +kernel
theorem ly_114 : fx_ly 114 = (100, 130) := by decide +kernel
theorem ly_115 : fx_ly 115 = (100, 130) := by decide +kernel
theorem ly_116 : fx_ly 116 = (100, 6000) := by decide +kernel
theorem ly_S {c : Int} (h : 20 ≤ c ∧ c < 81) : fx_ly c = (5, 11) := by unfold fx_ly; rw [if_neg (by omega), if_pos h]
theorem cv_0_0 : fx_cv 0 0 = 1 := by decide +kernel
theorem cv_0_1 : fx_cv 0 1 = 6 := by decide +kernel
theorem cv_0_2 : fx_cv 0 2 = 11 := by decide +kernel
theorem cv_0_3 : fx_cv 0 3 = 16 := by decide +kernel
theorem cv_0_4 : fx_cv 0 4 = 17 := by decide +kernel
theorem cv_0_5 : fx_cv 0 5 = 81 := by decide +kernel
theorem cv_1_0 : fx_cv 1 0 = 2 := by decide +kernel
theorem cv_1_1 : fx_cv 1 1 = 3 := by decide +kernel
theorem cv_1_2 : fx_cv 1 2 = 4 := by decide +kernel
theorem cv_1_3 : fx_cv 1 3 = 5 := by decide +kernel
theorem cv_6_0 : fx_cv 6 0 = 7 := by decide +kernel
theorem cv_6_1 : fx_cv 6 1 = 8 := by decide +kernel
theorem cv_6_2 : fx_cv 6 2 = 9 := by decide +kernel
theorem cv_6_3 : fx_cv 6 3 = 10 := by decide +kernel
theorem cv_11_0 : fx_cv 11 0 = 12 := by decide +kernel
theorem cv_11_1 : fx_cv 11 1 = 13 := by decide +kernel
theorem cv_11_2 : fx_cv 11 2 = 14 := by decide +kernel
theorem cv_11_3 : fx_cv 11 3 = 15 := by decide +kernel
theorem cv_17_0 : fx_cv 17 0 = 1 := by decide +kernel
theorem cv_17_1 : fx_cv 17 1 = 11 := by decide +kernel
theorem cv_17_2 : fx_cv 17 2 = 18 := by decide +kernel
theorem cv_17_3 : fx_cv 17 3 = 19 := by decide +kernel
theorem cv_81_0 : fx_cv 81 0 = 6 := by decide +kernel
theorem cv_81_1 : fx_cv 81 1 = 82 := by decide +kernel
theorem cv_81_2 : fx_cv 81 2 = 83 := by decide +kernel
theorem cv_81_3 : fx_cv 81 3 = 87 := by decide +kernel
theorem cv_82_0 : fx_cv 82 0 = 17 := by decide +kernel
theorem cv_82_1 : fx_cv 82 1 = 16 := by decide +kernel
theorem cv_83_0 : fx_cv 83 0 = 84 := by decide +kernel
theorem cv_83_1 : fx_cv 83 1 = 85 := by decide +kernel
theorem cv_83_2 : fx_cv 83 2 = 86 := by decide +kernel
theorem cv_88_1 : fx_cv 88 1 = 89 := by decide +kernel
theorem cv_88_2 : fx_cv 88 2 = 90 := by decide +kernel
theorem cv_88_4 : fx_cv 88 4 = 91 := by decide +kernel
theorem cv_88_5 : fx_cv 88 5 = 92 := by decide +kernel
theorem cv_88_6 : fx_cv 88 6 = 93 := by decide +kernel
theorem cv_88_7 : fx_cv 88 7 = 94 := by decide +kernel
theorem cv_88_8 : fx_cv 88 8 = 95 := by decide +kernel
theorem cv_88_9 : fx_cv 88 9 = 96 := by decide +kernel
theorem cv_88_10 : fx_cv 88 10 = 97 := by decide +kernel
theorem cv_88_11 : fx_cv 88 11 = 98 := by decide +kernel
theorem cv_88_14 : fx_cv 88 14 = 99 := by decide +kernel
theorem cv_88_15 : fx_cv 88 15 = 100 := by decide +kernel
theorem cv_88_16 : fx_cv 88 16 = 101 := by decide +kernel
theorem cv_88_18 : fx_cv 88 18 = 102 := by decide +kernel
theorem cv_88_19 : fx_cv 88 19 = 103 := by decide +kernel
theorem cv_88_20 : fx_cv 88 20 = 104 := by decide +kernel
theorem cv_88_21 : fx_cv 88 21 = 105 := by decide +kernel
theorem cv_88_22 : fx_cv 88 22 = 106 := by decide +kernel
theorem cv_88_23 : fx_cv 88 23 = 107 := by decide +kernel
theorem cv_88_24 : fx_cv 88 24 = 108 := by decide +kernel
theorem cv_88_25 : fx_cv 88 25 = 109 := by decide +kernel
theorem cv_88_26 : fx_cv 88 26 = 110 := by decide +kernel
theorem cv_88_27 : fx_cv 88 27 = 111 := by decide +kernel
theorem cv_88_28 : fx_cv 88 28 = 112 := by decide +kernel
theorem cv_88_29 : fx_cv 88 29 = 113 := by decide +kernel
theorem cv_88_32 : fx_cv 88 32 = 114 := by decide +kernel
theorem cv_88_34 : fx_cv 88 34 = 115 := by decide +kernel
theorem cv_88_35 : fx_cv 88 35 = 116 := by decide +kernel
theorem cv_S {c k : Int} (h : 20 ≤ c ∧ c < 81) : fx_cv c k = c - 20 := by unfold fx_cv; rw [if_neg (by omega), if_pos h]
theorem cv_st (k : Int) : fx_cv 18 k = 20 + k := by unfold fx_cv; rw [if_pos rfl]
abbrev MD : Type := MethodName × ByteArray × Nat × Option FieldType
abbrev c_G_init : ByteArray := prog_1_method_1_code
abbrev m_G_init : MD := (⟨R_G, "<init>", "()V"⟩, c_G_init, 1, none)
abbrev c_G_type : ByteArray := prog_1_method_2_code
abbrev m_G_type : MD := (⟨R_G, "type", "()I"⟩, c_G_type, 1, (some .int))
abbrev c_G_field : ByteArray := prog_1_method_3_code
abbrev m_G_field : MD := (⟨R_G, "field", "(IIIZ)I"⟩, c_G_field, 5, (some .int))
abbrev c_G_row : ByteArray := prog_1_method_4_code
abbrev m_G_row : MD := (⟨R_G, "row", "(I)I"⟩, c_G_row, 2, (some .int))
abbrev c_G_put : ByteArray := prog_1_method_5_code
abbrev m_G_put : MD := (⟨R_G, "put", "(III)I"⟩, c_G_put, 4, (some .int))
abbrev c_G_link : ByteArray := prog_1_method_6_code
abbrev m_G_link : MD := (⟨R_G, "link", "(III)I"⟩, c_G_link, 6, (some .int))
abbrev c_G_clear : ByteArray := prog_1_method_7_code
abbrev m_G_clear : MD := (⟨R_G, "clear", "(II)I"⟩, c_G_clear, 3, (some .int))
abbrev c_G_set : ByteArray := prog_1_method_8_code
abbrev m_G_set : MD := (⟨R_G, "set", "(II)I"⟩, c_G_set, 3, (some .int))
abbrev c_G_token : ByteArray := prog_1_method_9_code
abbrev m_G_token : MD := (⟨R_G, "token", "(IIII)I"⟩, c_G_token, 5, (some .int))
abbrev c_G_wipe : ByteArray := prog_1_method_10_code
abbrev m_G_wipe : MD := (⟨R_G, "wipe", "(I)I"⟩, c_G_wipe, 3, (some .int))
abbrev c_G_check : ByteArray := prog_1_method_11_code
abbrev m_G_check : MD := (⟨R_G, "check", "(I)I"⟩, c_G_check, 2, (some .int))
abbrev c_G_place : ByteArray := prog_1_method_12_code
abbrev m_G_place : MD := (⟨R_G, "place", "()I"⟩, c_G_place, 1, (some .int))
abbrev c_G_ask : ByteArray := prog_1_method_13_code
abbrev m_G_ask : MD := (⟨R_G, "ask", "(I)I"⟩, c_G_ask, 2, (some .int))
abbrev c_G_code : ByteArray := prog_1_method_14_code
abbrev m_G_code : MD := (⟨R_G, "code", "(I)I"⟩, c_G_code, 2, (some .int))
abbrev c_G_missing : ByteArray := prog_1_method_15_code
abbrev m_G_missing : MD := (⟨R_G, "missing", "(II)I"⟩, c_G_missing, 3, (some .int))
abbrev c_G_count : ByteArray := prog_1_method_16_code
abbrev m_G_count : MD := (⟨R_G, "count", "(I)I"⟩, c_G_count, 2, (some .int))
abbrev c_G_isWithin : ByteArray := prog_1_method_17_code
abbrev m_G_isWithin : MD := (⟨R_G, "isWithin", "(III)Z"⟩, c_G_isWithin, 3, (some .boolean))
abbrev c_G_isTokenInRange : ByteArray := prog_1_method_18_code
abbrev m_G_isTokenInRange : MD := (⟨R_G, "isTokenInRange", "(III)Z"⟩, c_G_isTokenInRange, 3, (some .boolean))
abbrev c_G_hasSetBehind : ByteArray := prog_1_method_19_code
abbrev m_G_hasSetBehind : MD := (⟨R_G, "hasSetBehind", "(I)Z"⟩, c_G_hasSetBehind, 1, (some .boolean))
abbrev c_G_kindIn : ByteArray := prog_1_method_20_code
abbrev m_G_kindIn : MD := (⟨R_G, "kindIn", "(II)I"⟩, c_G_kindIn, 3, (some .int))
abbrev c_Mo_init : ByteArray := prog_11_method_1_code
abbrev m_Mo_init : MD := (⟨R_Mo, "<init>", "()V"⟩, c_Mo_init, 1, none)
abbrev c_Mo_in : ByteArray := prog_11_method_2_code
abbrev m_Mo_in : MD := (⟨R_Mo, "in", "(III)Z"⟩, c_Mo_in, 3, (some .boolean))
abbrev c_Mo_type : ByteArray := prog_11_method_3_code
abbrev m_Mo_type : MD := (⟨R_Mo, "type", "()I"⟩, c_Mo_type, 1, (some .int))
abbrev c_Mo_field : ByteArray := prog_11_method_4_code
abbrev m_Mo_field : MD := (⟨R_Mo, "field", "(IIIZ)I"⟩, c_Mo_field, 6, (some .int))
abbrev c_Mo_row : ByteArray := prog_11_method_5_code
abbrev m_Mo_row : MD := (⟨R_Mo, "row", "(I)I"⟩, c_Mo_row, 2, (some .int))
abbrev c_Mo_of : ByteArray := prog_11_method_6_code
abbrev m_Mo_of : MD := (⟨R_Mo, "of", "(III)I"⟩, c_Mo_of, 4, (some .int))
abbrev c_Mo_badField : ByteArray := prog_11_method_7_code
abbrev m_Mo_badField : MD := (⟨R_Mo, "badField", "(II)Z"⟩, c_Mo_badField, 3, (some .boolean))
abbrev c_Mo_put : ByteArray := prog_11_method_8_code
abbrev m_Mo_put : MD := (⟨R_Mo, "put", "(III)I"⟩, c_Mo_put, 4, (some .int))
abbrev c_Mo_link : ByteArray := prog_11_method_9_code
abbrev m_Mo_link : MD := (⟨R_Mo, "link", "(III)I"⟩, c_Mo_link, 7, (some .int))
abbrev c_Mo_clear : ByteArray := prog_11_method_10_code
abbrev m_Mo_clear : MD := (⟨R_Mo, "clear", "(II)I"⟩, c_Mo_clear, 3, (some .int))
abbrev c_Mo_set : ByteArray := prog_11_method_11_code
abbrev m_Mo_set : MD := (⟨R_Mo, "set", "(II)I"⟩, c_Mo_set, 3, (some .int))
abbrev c_Mo_fits : ByteArray := prog_11_method_12_code
abbrev m_Mo_fits : MD := (⟨R_Mo, "fits", "(III)Z"⟩, c_Mo_fits, 3, (some .boolean))
abbrev c_Mo_token : ByteArray := prog_11_method_13_code
abbrev m_Mo_token : MD := (⟨R_Mo, "token", "(IIII)I"⟩, c_Mo_token, 6, (some .int))
abbrev c_Mo_wipe : ByteArray := prog_11_method_14_code
abbrev m_Mo_wipe : MD := (⟨R_Mo, "wipe", "(I)I"⟩, c_Mo_wipe, 3, (some .int))
abbrev c_Mo_opens : ByteArray := prog_11_method_15_code
abbrev m_Mo_opens : MD := (⟨R_Mo, "opens", "(I)Z"⟩, c_Mo_opens, 2, (some .boolean))
abbrev c_Mo_good : ByteArray := prog_11_method_16_code
abbrev m_Mo_good : MD := (⟨R_Mo, "good", "(I)Z"⟩, c_Mo_good, 4, (some .boolean))
abbrev c_Mo_behind : ByteArray := prog_11_method_17_code
abbrev m_Mo_behind : MD := (⟨R_Mo, "behind", "(I)I"⟩, c_Mo_behind, 4, (some .int))
abbrev c_Mo_fieldRight : ByteArray := prog_11_method_18_code
abbrev m_Mo_fieldRight : MD := (⟨R_Mo, "fieldRight", "(II)Z"⟩, c_Mo_fieldRight, 4, (some .boolean))
abbrev c_Mo_right : ByteArray := prog_11_method_19_code
abbrev m_Mo_right : MD := (⟨R_Mo, "right", "(II)Z"⟩, c_Mo_right, 3, (some .boolean))
abbrev c_Mo_enter : ByteArray := prog_11_method_20_code
abbrev m_Mo_enter : MD := (⟨R_Mo, "enter", "(II)V"⟩, c_Mo_enter, 3, none)
abbrev c_Mo_through : ByteArray := prog_11_method_21_code
abbrev m_Mo_through : MD := (⟨R_Mo, "through", "(I)I"⟩, c_Mo_through, 3, (some .int))
abbrev c_Mo_checked : ByteArray := prog_11_method_22_code
abbrev m_Mo_checked : MD := (⟨R_Mo, "checked", "(I)Z"⟩, c_Mo_checked, 4, (some .boolean))
abbrev c_Mo_check : ByteArray := prog_11_method_23_code
abbrev m_Mo_check : MD := (⟨R_Mo, "check", "(I)I"⟩, c_Mo_check, 2, (some .int))
abbrev c_Mo_place : ByteArray := prog_11_method_24_code
abbrev m_Mo_place : MD := (⟨R_Mo, "place", "()I"⟩, c_Mo_place, 1, (some .int))
abbrev c_Mo_addSet : ByteArray := prog_11_method_25_code
abbrev m_Mo_addSet : MD := (⟨R_Mo, "addSet", "(III)V"⟩, c_Mo_addSet, 4, none)
abbrev c_Mo_take : ByteArray := prog_11_method_26_code
abbrev m_Mo_take : MD := (⟨R_Mo, "take", "(II)Z"⟩, c_Mo_take, 5, (some .boolean))
abbrev c_Mo_collectOne : ByteArray := prog_11_method_27_code
abbrev m_Mo_collectOne : MD := (⟨R_Mo, "collectOne", "(II)Z"⟩, c_Mo_collectOne, 6, (some .boolean))
abbrev c_Mo_begin : ByteArray := prog_11_method_28_code
abbrev m_Mo_begin : MD := (⟨R_Mo, "begin", "(I)I"⟩, c_Mo_begin, 5, (some .int))
abbrev c_Mo_say : ByteArray := prog_11_method_29_code
abbrev m_Mo_say : MD := (⟨R_Mo, "say", "(I)I"⟩, c_Mo_say, 2, (some .int))
abbrev c_Mo_entry : ByteArray := prog_11_method_30_code
abbrev m_Mo_entry : MD := (⟨R_Mo, "entry", "(I)I"⟩, c_Mo_entry, 2, (some .int))
abbrev c_Mo_kindAt : ByteArray := prog_11_method_31_code
abbrev m_Mo_kindAt : MD := (⟨R_Mo, "kindAt", "(I)I"⟩, c_Mo_kindAt, 2, (some .int))
abbrev c_Mo_note : ByteArray := prog_11_method_32_code
abbrev m_Mo_note : MD := (⟨R_Mo, "note", "()V"⟩, c_Mo_note, 3, none)
abbrev c_Mo_nothing : ByteArray := prog_11_method_33_code
abbrev m_Mo_nothing : MD := (⟨R_Mo, "nothing", "(IZ)V"⟩, c_Mo_nothing, 3, none)
abbrev c_Mo_endObject : ByteArray := prog_11_method_34_code
abbrev m_Mo_endObject : MD := (⟨R_Mo, "endObject", "()I"⟩, c_Mo_endObject, 3, (some .int))
abbrev c_Mo_manyStep : ByteArray := prog_11_method_35_code
abbrev m_Mo_manyStep : MD := (⟨R_Mo, "manyStep", "(I)I"⟩, c_Mo_manyStep, 3, (some .int))
abbrev c_Mo_plain : ByteArray := prog_11_method_36_code
abbrev m_Mo_plain : MD := (⟨R_Mo, "plain", "(II)I"⟩, c_Mo_plain, 3, (some .int))
abbrev c_Mo_step : ByteArray := prog_11_method_37_code
abbrev m_Mo_step : MD := (⟨R_Mo, "step", "()I"⟩, c_Mo_step, 4, (some .int))
abbrev c_Mo_ask : ByteArray := prog_11_method_38_code
abbrev m_Mo_ask : MD := (⟨R_Mo, "ask", "(I)I"⟩, c_Mo_ask, 3, (some .int))
abbrev c_Mo_code : ByteArray := prog_11_method_39_code
abbrev m_Mo_code : MD := (⟨R_Mo, "code", "(I)I"⟩, c_Mo_code, 2, (some .int))
abbrev c_Mo_missing : ByteArray := prog_11_method_40_code
abbrev m_Mo_missing : MD := (⟨R_Mo, "missing", "(II)I"⟩, c_Mo_missing, 4, (some .int))
abbrev c_Mo_count : ByteArray := prog_11_method_41_code
abbrev m_Mo_count : MD := (⟨R_Mo, "count", "(I)I"⟩, c_Mo_count, 2, (some .int))
abbrev c_As_init : ByteArray := prog_2_method_1_code
abbrev m_As_init : MD := (⟨R_As, "<init>", "(LQueryGraph$Rows;LQueryGraph$Collector;)V"⟩, c_As_init, 3, none)
abbrev c_As_forget : ByteArray := prog_2_method_2_code
abbrev m_As_forget : MD := (⟨R_As, "forget", "()V"⟩, c_As_forget, 1, none)
abbrev c_As_answer : ByteArray := prog_2_method_3_code
abbrev m_As_answer : MD := (⟨R_As, "answer", "(ILQueryGraph$Step;)I"⟩, c_As_answer, 3, (some .int))
abbrev c_As_workOutObject : ByteArray := prog_2_method_4_code
abbrev m_As_workOutObject : MD := (⟨R_As, "workOutObject", "(ILQueryGraph$Step;I)Z"⟩, c_As_workOutObject, 8, (some .boolean))
abbrev c_As_collectEntries : ByteArray := prog_2_method_5_code
abbrev m_As_collectEntries : MD := (⟨R_As, "collectEntries", "(ILQueryGraph$Step;I)LQueryGraph$Step;"⟩, c_As_collectEntries, 5, (some (.object "QueryGraph$Step")))
abbrev c_As_workOutValue : ByteArray := prog_2_method_6_code
abbrev m_As_workOutValue : MD := (⟨R_As, "workOutValue", "(ILQueryGraph$Step;I)Z"⟩, c_As_workOutValue, 4, (some .boolean))
abbrev c_As_workOutNumber : ByteArray := prog_2_method_7_code
abbrev m_As_workOutNumber : MD := (⟨R_As, "workOutNumber", "(ILQueryGraph$Step;)Z"⟩, c_As_workOutNumber, 4, (some .boolean))
abbrev c_As_workOutLink : ByteArray := prog_2_method_8_code
abbrev m_As_workOutLink : MD := (⟨R_As, "workOutLink", "(ILQueryGraph$Step;I)Z"⟩, c_As_workOutLink, 5, (some .boolean))
abbrev c_As_workOutMany : ByteArray := prog_2_method_9_code
abbrev m_As_workOutMany : MD := (⟨R_As, "workOutMany", "(ILQueryGraph$Step;I)Z"⟩, c_As_workOutMany, 6, (some .boolean))
abbrev c_As_workOutNothing : ByteArray := prog_2_method_10_code
abbrev m_As_workOutNothing : MD := (⟨R_As, "workOutNothing", "(LQueryGraph$Step;)Z"⟩, c_As_workOutNothing, 2, (some .boolean))
abbrev c_As_addCode : ByteArray := prog_2_method_11_code
abbrev m_As_addCode : MD := (⟨R_As, "addCode", "(I)V"⟩, c_As_addCode, 2, none)
abbrev c_As_cutBack : ByteArray := prog_2_method_12_code
abbrev m_As_cutBack : MD := (⟨R_As, "cutBack", "(I)V"⟩, c_As_cutBack, 2, none)
abbrev c_Co_init : ByteArray := prog_3_method_1_code
abbrev m_Co_init : MD := (⟨R_Co, "<init>", "(LQueryGraph$Plan;[I)V"⟩, c_Co_init, 3, none)
abbrev c_Co_collect : ByteArray := prog_3_method_2_code
abbrev m_Co_collect : MD := (⟨R_Co, "collect", "(ILQueryGraph$Step;)LQueryGraph$Step;"⟩, c_Co_collect, 6, (some (.object "QueryGraph$Step")))
abbrev c_Co_isPassedOver : ByteArray := prog_3_method_3_code
abbrev m_Co_isPassedOver : MD := (⟨R_Co, "isPassedOver", "(LQueryGraph$Step;I)Z"⟩, c_Co_isPassedOver, 3, (some .boolean))
abbrev c_Co_enter : ByteArray := prog_3_method_4_code
abbrev m_Co_enter : MD := (⟨R_Co, "enter", "(LQueryGraph$Step;)V"⟩, c_Co_enter, 3, none)
abbrev c_Co_putBehind : ByteArray := prog_3_method_5_code
abbrev m_Co_putBehind : MD := (⟨R_Co, "putBehind", "(LQueryGraph$Step;LQueryGraph$Step;)V"⟩, c_Co_putBehind, 3, none)
abbrev c_Co_entryNamed : ByteArray := prog_3_method_6_code
abbrev m_Co_entryNamed : MD := (⟨R_Co, "entryNamed", "(I)LQueryGraph$Step;"⟩, c_Co_entryNamed, 3, (some (.object "QueryGraph$Step")))
abbrev c_Co_addEntry : ByteArray := prog_3_method_7_code
abbrev m_Co_addEntry : MD := (⟨R_Co, "addEntry", "(LQueryGraph$Step;)V"⟩, c_Co_addEntry, 2, none)
abbrev c_Pa_init : ByteArray := prog_4_method_1_code
abbrev m_Pa_init : MD := (⟨R_Pa, "<init>", "()V"⟩, c_Pa_init, 1, none)
abbrev c_Pa_forgetAll : ByteArray := prog_4_method_2_code
abbrev m_Pa_forgetAll : MD := (⟨R_Pa, "forgetAll", "()V"⟩, c_Pa_forgetAll, 1, none)
abbrev c_Pa_goInto : ByteArray := prog_4_method_3_code
abbrev m_Pa_goInto : MD := (⟨R_Pa, "goInto", "(I)V"⟩, c_Pa_goInto, 2, none)
abbrev c_Pa_goOut : ByteArray := prog_4_method_4_code
abbrev m_Pa_goOut : MD := (⟨R_Pa, "goOut", "()V"⟩, c_Pa_goOut, 1, none)
abbrev c_Pa_noteHere : ByteArray := prog_4_method_5_code
abbrev m_Pa_noteHere : MD := (⟨R_Pa, "noteHere", "()V"⟩, c_Pa_noteHere, 1, none)
abbrev c_Pa_partOf : ByteArray := prog_4_method_6_code
abbrev m_Pa_partOf : MD := (⟨R_Pa, "partOf", "(II)I"⟩, c_Pa_partOf, 3, (some .int))
abbrev c_Pl_init : ByteArray := prog_5_method_1_code
abbrev m_Pl_init : MD := (⟨R_Pl, "<init>", "(LQueryGraph$Schema;LQueryGraph$Texts;)V"⟩, c_Pl_init, 4, none)
abbrev c_Pl_root : ByteArray := prog_5_method_2_code
abbrev m_Pl_root : MD := (⟨R_Pl, "root", "()LQueryGraph$Step;"⟩, c_Pl_root, 1, (some (.object "QueryGraph$Step")))
abbrev c_Pl_writeOutQuery : ByteArray := prog_5_method_3_code
abbrev m_Pl_writeOutQuery : MD := (⟨R_Pl, "writeOutQuery", "(I)Z"⟩, c_Pl_writeOutQuery, 3, (some .boolean))
abbrev c_Pl_writeOut : ByteArray := prog_5_method_4_code
abbrev m_Pl_writeOut : MD := (⟨R_Pl, "writeOut", "(ILQueryGraph$Step;)Z"⟩, c_Pl_writeOut, 7, (some .boolean))
abbrev c_Pl_takeStep : ByteArray := prog_5_method_5_code
abbrev m_Pl_takeStep : MD := (⟨R_Pl, "takeStep", "(ILQueryGraph$Step;)LQueryGraph$Step;"⟩, c_Pl_takeStep, 4, (some (.object "QueryGraph$Step")))
abbrev c_Pl_isRight : ByteArray := prog_5_method_6_code
abbrev m_Pl_isRight : MD := (⟨R_Pl, "isRight", "(LQueryGraph$Step;I)Z"⟩, c_Pl_isRight, 3, (some .boolean))
abbrev c_Pl_findField : ByteArray := prog_5_method_7_code
abbrev m_Pl_findField : MD := (⟨R_Pl, "findField", "(LQueryGraph$Step;I)Z"⟩, c_Pl_findField, 3, (some .boolean))
abbrev c_Pl_typeBehind : ByteArray := prog_5_method_8_code
abbrev m_Pl_typeBehind : MD := (⟨R_Pl, "typeBehind", "(LQueryGraph$Step;I)I"⟩, c_Pl_typeBehind, 3, (some .int))
abbrev c_Ro_init : ByteArray := prog_6_method_1_code
abbrev m_Ro_init : MD := (⟨R_Ro, "<init>", "()V"⟩, c_Ro_init, 1, none)
abbrev c_Ro_hasRow : ByteArray := prog_6_method_2_code
abbrev m_Ro_hasRow : MD := (⟨R_Ro, "hasRow", "(I)Z"⟩, c_Ro_hasRow, 2, (some .boolean))
abbrev c_Ro_typeOf : ByteArray := prog_6_method_3_code
abbrev m_Ro_typeOf : MD := (⟨R_Ro, "typeOf", "(I)I"⟩, c_Ro_typeOf, 2, (some .int))
abbrev c_Ro_addRow : ByteArray := prog_6_method_4_code
abbrev m_Ro_addRow : MD := (⟨R_Ro, "addRow", "(I)I"⟩, c_Ro_addRow, 3, (some .int))
abbrev c_Ro_emptyField : ByteArray := prog_6_method_5_code
abbrev m_Ro_emptyField : MD := (⟨R_Ro, "emptyField", "(II)V"⟩, c_Ro_emptyField, 3, none)
abbrev c_Ro_holdNumber : ByteArray := prog_6_method_6_code
abbrev m_Ro_holdNumber : MD := (⟨R_Ro, "holdNumber", "(III)V"⟩, c_Ro_holdNumber, 4, none)
abbrev c_Ro_numberOf : ByteArray := prog_6_method_7_code
abbrev m_Ro_numberOf : MD := (⟨R_Ro, "numberOf", "(II)I"⟩, c_Ro_numberOf, 3, (some .int))
abbrev c_Ro_addLinked : ByteArray := prog_6_method_8_code
abbrev m_Ro_addLinked : MD := (⟨R_Ro, "addLinked", "(III)I"⟩, c_Ro_addLinked, 5, (some .int))
abbrev c_Ro_linkedCount : ByteArray := prog_6_method_9_code
abbrev m_Ro_linkedCount : MD := (⟨R_Ro, "linkedCount", "(II)I"⟩, c_Ro_linkedCount, 3, (some .int))
abbrev c_Ro_linkedRow : ByteArray := prog_6_method_10_code
abbrev m_Ro_linkedRow : MD := (⟨R_Ro, "linkedRow", "(III)I"⟩, c_Ro_linkedRow, 4, (some .int))
abbrev c_Ro_cellOf : ByteArray := prog_6_method_11_code
abbrev m_Ro_cellOf : MD := (⟨R_Ro, "cellOf", "(II)I"⟩, c_Ro_cellOf, 2, (some .int))
abbrev c_Sc_init : ByteArray := prog_7_method_1_code
abbrev m_Sc_init : MD := (⟨R_Sc, "<init>", "()V"⟩, c_Sc_init, 1, none)
abbrev c_Sc_hasType : ByteArray := prog_7_method_2_code
abbrev m_Sc_hasType : MD := (⟨R_Sc, "hasType", "(I)Z"⟩, c_Sc_hasType, 2, (some .boolean))
abbrev c_Sc_hasField : ByteArray := prog_7_method_3_code
abbrev m_Sc_hasField : MD := (⟨R_Sc, "hasField", "(II)Z"⟩, c_Sc_hasField, 3, (some .boolean))
abbrev c_Sc_kindOf : ByteArray := prog_7_method_4_code
abbrev m_Sc_kindOf : MD := (⟨R_Sc, "kindOf", "(II)I"⟩, c_Sc_kindOf, 3, (some .int))
abbrev c_Sc_targetOf : ByteArray := prog_7_method_5_code
abbrev m_Sc_targetOf : MD := (⟨R_Sc, "targetOf", "(II)I"⟩, c_Sc_targetOf, 3, (some .int))
abbrev c_Sc_isRequired : ByteArray := prog_7_method_6_code
abbrev m_Sc_isRequired : MD := (⟨R_Sc, "isRequired", "(II)Z"⟩, c_Sc_isRequired, 3, (some .boolean))
abbrev c_Sc_addType : ByteArray := prog_7_method_7_code
abbrev m_Sc_addType : MD := (⟨R_Sc, "addType", "()I"⟩, c_Sc_addType, 2, (some .int))
abbrev c_Sc_addField : ByteArray := prog_7_method_8_code
abbrev m_Sc_addField : MD := (⟨R_Sc, "addField", "(IIIZ)I"⟩, c_Sc_addField, 7, (some .int))
abbrev c_St_init : ByteArray := prog_8_method_1_code
abbrev m_St_init : MD := (⟨R_St, "<init>", "(I)V"⟩, c_St_init, 2, none)
abbrev c_St_isEntry : ByteArray := prog_8_method_2_code
abbrev m_St_isEntry : MD := (⟨R_St, "isEntry", "()Z"⟩, c_St_isEntry, 1, (some .boolean))
abbrev c_Te_init : ByteArray := prog_9_method_1_code
abbrev m_Te_init : MD := (⟨R_Te, "<init>", "()V"⟩, c_Te_init, 1, none)
abbrev c_Te_addToken : ByteArray := prog_9_method_2_code
abbrev m_Te_addToken : MD := (⟨R_Te, "addToken", "(IIII)I"⟩, c_Te_addToken, 6, (some .int))
abbrev c_Te_isGood : ByteArray := prog_9_method_3_code
abbrev m_Te_isGood : MD := (⟨R_Te, "isGood", "(I)Z"⟩, c_Te_isGood, 5, (some .boolean))
def fx_nest : List (String × Nat × MethodName × String) := [(R_G, 11, m_Sc_init.1, "QueryGraph"), (R_G, 18, m_Ro_init.1, "QueryGraph"), (R_G, 25, m_Te_init.1, "QueryGraph"), (R_As, 11, m_Pa_init.1, "QueryGraph"), (R_Pa, 40, m_G_isWithin.1, "QueryGraph"), (R_Pl, 84, m_G_hasSetBehind.1, "QueryGraph"), (R_Ro, 28, m_G_isWithin.1, "QueryGraph"), (R_Te, 24, m_G_hasSetBehind.1, "QueryGraph")]
end
section
theorem d_G_init_0 : decode c_G_init 0 = .ok (.aload_n 0, 1) := by decide +kernel
theorem d_G_init_1 : decode c_G_init 1 = .ok (.invokespecial 3, 3) := by decide +kernel
theorem d_G_init_4 : decode c_G_init 4 = .ok (.aload_n 0, 1) := by decide +kernel
theorem d_G_init_5 : decode c_G_init 5 = .ok (.new 9, 3) := by decide +kernel
theorem d_G_init_8 : decode c_G_init 8 = .ok (.dup, 1) := by decide +kernel
theorem d_G_init_9 : decode c_G_init 9 = .ok (.invokespecial 11, 3) := by decide +kernel
theorem d_G_init_12 : decode c_G_init 12 = .ok (.putfield 12, 3) := by decide +kernel
theorem d_G_init_15 : decode c_G_init 15 = .ok (.aload_n 0, 1) := by decide +kernel
theorem d_G_init_16 : decode c_G_init 16 = .ok (.new 16, 3) := by decide +kernel
theorem d_G_init_19 : decode c_G_init 19 = .ok (.dup, 1) := by decide +kernel
theorem d_G_init_20 : decode c_G_init 20 = .ok (.invokespecial 18, 3) := by decide +kernel
theorem d_G_init_23 : decode c_G_init 23 = .ok (.putfield 19, 3) := by decide +kernel
theorem d_G_init_26 : decode c_G_init 26 = .ok (.aload_n 0, 1) := by decide +kernel
theorem d_G_init_27 : decode c_G_init 27 = .ok (.new 23, 3) := by decide +kernel
theorem d_G_init_30 : decode c_G_init 30 = .ok (.dup, 1) := by decide +kernel
theorem d_G_init_31 : decode c_G_init 31 = .ok (.invokespecial 25, 3) := by decide +kernel
theorem d_G_init_34 : decode c_G_init 34 = .ok (.putfield 26, 3) := by decide +kernel
theorem d_G_init_37 : decode c_G_init 37 = .ok (.aload_n 0, 1) := by decide +kernel
theorem d_G_init_38 : decode c_G_init 38 = .ok (.iconst 4, 1) := by decide +kernel
theorem d_G_init_39 : decode c_G_init 39 = .ok (.newarray .int, 2) := by decide +kernel
theorem d_G_init_41 : decode c_G_init 41 = .ok (.putfield 30, 3) := by decide +kernel
theorem d_G_init_44 : decode c_G_init 44 = .ok (.aload_n 0, 1) := by decide +kernel
theorem d_G_init_45 : decode c_G_init 45 = .ok (.new 34, 3) := by decide +kernel
theorem d_G_init_48 : decode c_G_init 48 = .ok (.dup, 1) := by decide +kernel
theorem d_G_init_49 : decode c_G_init 49 = .ok (.aload_n 0, 1) := by decide +kernel
theorem d_G_init_50 : decode c_G_init 50 = .ok (.getfield 12, 3) := by decide +kernel
theorem d_G_init_53 : decode c_G_init 53 = .ok (.aload_n 0, 1) := by decide +kernel
theorem d_G_init_54 : decode c_G_init 54 = .ok (.getfield 26, 3) := by decide +kernel
theorem d_G_init_57 : decode c_G_init 57 = .ok (.invokespecial 36, 3) := by decide +kernel
theorem d_G_init_60 : decode c_G_init 60 = .ok (.putfield 39, 3) := by decide +kernel
theorem d_G_init_63 : decode c_G_init 63 = .ok (.aload_n 0, 1) := by decide +kernel
theorem d_G_init_64 : decode c_G_init 64 = .ok (.new 43, 3) := by decide +kernel
theorem d_G_init_67 : decode c_G_init 67 = .ok (.dup, 1) := by decide +kernel
theorem d_G_init_68 : decode c_G_init 68 = .ok (.aload_n 0, 1) := by decide +kernel
theorem d_G_init_69 : decode c_G_init 69 = .ok (.getfield 19, 3) := by decide +kernel
theorem d_G_init_72 : decode c_G_init 72 = .ok (.new 45, 3) := by decide +kernel
theorem d_G_init_75 : decode c_G_init 75 = .ok (.dup, 1) := by decide +kernel
theorem d_G_init_76 : decode c_G_init 76 = .ok (.aload_n 0, 1) := by decide +kernel
theorem d_G_init_77 : decode c_G_init 77 = .ok (.getfield 39, 3) := by decide +kernel
theorem d_G_init_80 : decode c_G_init 80 = .ok (.aload_n 0, 1) := by decide +kernel
theorem d_G_init_81 : decode c_G_init 81 = .ok (.getfield 30, 3) := by decide +kernel
theorem d_G_init_84 : decode c_G_init 84 = .ok (.invokespecial 47, 3) := by decide +kernel
theorem d_G_init_87 : decode c_G_init 87 = .ok (.invokespecial 50, 3) := by decide +kernel
theorem d_G_init_90 : decode c_G_init 90 = .ok (.putfield 53, 3) := by decide +kernel
theorem d_G_init_93 : decode c_G_init 93 = .ok (.return_, 1) := by decide +kernel
theorem d_G_type_0 : decode c_G_type 0 = .ok (.aload_n 0, 1) := by decide +kernel
theorem d_G_type_1 : decode c_G_type 1 = .ok (.getfield 12, 3) := by decide +kernel
theorem d_G_type_4 : decode c_G_type 4 = .ok (.getfield 57, 3) := by decide +kernel
theorem d_G_type_7 : decode c_G_type 7 = .ok (.iconst 5, 1) := by decide +kernel
theorem d_G_type_8 : decode c_G_type 8 = .ok (.if_icmp .ge 13, 3) := by decide +kernel
theorem d_G_type_11 : decode c_G_type 11 = .ok (.aload_n 0, 1) := by decide +kernel
theorem d_G_type_12 : decode c_G_type 12 = .ok (.getfield 19, 3) := by decide +kernel
theorem d_G_type_15 : decode c_G_type 15 = .ok (.getfield 61, 3) := by decide +kernel
theorem d_G_type_18 : decode c_G_type 18 = .ok (.ifCond .le 6, 3) := by decide +kernel
theorem d_G_type_21 : decode c_G_type 21 = .ok (.bipush (-2), 2) := by decide +kernel
theorem d_G_type_23 : decode c_G_type 23 = .ok (.ireturn, 1) := by decide +kernel
theorem d_G_type_24 : decode c_G_type 24 = .ok (.aload_n 0, 1) := by decide +kernel
theorem d_G_type_25 : decode c_G_type 25 = .ok (.getfield 12, 3) := by decide +kernel
theorem d_G_type_28 : decode c_G_type 28 = .ok (.invokevirtual 64, 3) := by decide +kernel
theorem d_G_type_31 : decode c_G_type 31 = .ok (.ireturn, 1) := by decide +kernel
theorem d_G_field_0 : decode c_G_field 0 = .ok (.aload_n 0, 1) := by decide +kernel
theorem d_G_field_1 : decode c_G_field 1 = .ok (.getfield 12, 3) := by decide +kernel
theorem d_G_field_4 : decode c_G_field 4 = .ok (.iload_n 1, 1) := by decide +kernel
theorem d_G_field_5 : decode c_G_field 5 = .ok (.invokevirtual 68, 3) := by decide +kernel
theorem d_G_field_8 : decode c_G_field 8 = .ok (.ifCond .eq 21, 3) := by decide +kernel
theorem d_G_field_11 : decode c_G_field 11 = .ok (.iload_n 2, 1) := by decide +kernel
theorem d_G_field_12 : decode c_G_field 12 = .ok (.iconst 0, 1) := by decide +kernel
theorem d_G_field_13 : decode c_G_field 13 = .ok (.iconst 2, 1) := by decide +kernel
theorem d_G_field_14 : decode c_G_field 14 = .ok (.invokestatic 72, 3) := by decide +kernel
theorem d_G_field_17 : decode c_G_field 17 = .ok (.ifCond .eq 12, 3) := by decide +kernel
theorem d_G_field_20 : decode c_G_field 20 = .ok (.iload_n 3, 1) := by decide +kernel
theorem d_G_field_21 : decode c_G_field 21 = .ok (.iconst 0, 1) := by decide +kernel
theorem d_G_field_22 : decode c_G_field 22 = .ok (.iconst 5, 1) := by decide +kernel
theorem d_G_field_23 : decode c_G_field 23 = .ok (.invokestatic 72, 3) := by decide +kernel
theorem d_G_field_26 : decode c_G_field 26 = .ok (.ifCond .ne 5, 3) := by decide +kernel
theorem d_G_field_29 : decode c_G_field 29 = .ok (.iconst (-1), 1) := by decide +kernel
theorem d_G_field_30 : decode c_G_field 30 = .ok (.ireturn, 1) := by decide +kernel
theorem d_G_field_31 : decode c_G_field 31 = .ok (.iload_n 2, 1) := by decide +kernel
theorem d_G_field_32 : decode c_G_field 32 = .ok (.ifCond .eq 21, 3) := by decide +kernel
theorem d_G_field_35 : decode c_G_field 35 = .ok (.iload_n 3, 1) := by decide +kernel
theorem d_G_field_36 : decode c_G_field 36 = .ok (.iconst 5, 1) := by decide +kernel
theorem d_G_field_37 : decode c_G_field 37 = .ok (.if_icmp .eq 16, 3) := by decide +kernel
theorem d_G_field_40 : decode c_G_field 40 = .ok (.aload_n 0, 1) := by decide +kernel
theorem d_G_field_41 : decode c_G_field 41 = .ok (.getfield 12, 3) := by decide +kernel
theorem d_G_field_44 : decode c_G_field 44 = .ok (.iload_n 3, 1) := by decide +kernel
theorem d_G_field_45 : decode c_G_field 45 = .ok (.invokevirtual 68, 3) := by decide +kernel
theorem d_G_field_48 : decode c_G_field 48 = .ok (.ifCond .ne 5, 3) := by decide +kernel
theorem d_G_field_51 : decode c_G_field 51 = .ok (.iconst (-1), 1) := by decide +kernel
theorem d_G_field_52 : decode c_G_field 52 = .ok (.ireturn, 1) := by decide +kernel
theorem d_G_field_53 : decode c_G_field 53 = .ok (.aload_n 0, 1) := by decide +kernel
theorem d_G_field_54 : decode c_G_field 54 = .ok (.getfield 19, 3) := by decide +kernel
theorem d_G_field_57 : decode c_G_field 57 = .ok (.getfield 61, 3) := by decide +kernel
theorem d_G_field_60 : decode c_G_field 60 = .ok (.ifCond .gt 16, 3) := by decide +kernel
theorem d_G_field_63 : decode c_G_field 63 = .ok (.aload_n 0, 1) := by decide +kernel
theorem d_G_field_64 : decode c_G_field 64 = .ok (.getfield 12, 3) := by decide +kernel
theorem d_G_field_67 : decode c_G_field 67 = .ok (.getfield 76, 3) := by decide +kernel
theorem d_G_field_70 : decode c_G_field 70 = .ok (.iload_n 1, 1) := by decide +kernel
theorem d_G_field_71 : decode c_G_field 71 = .ok (.iaload, 1) := by decide +kernel
theorem d_G_field_72 : decode c_G_field 72 = .ok (.iconst 4, 1) := by decide +kernel
theorem d_G_field_73 : decode c_G_field 73 = .ok (.if_icmp .lt 6, 3) := by decide +kernel
theorem d_G_field_76 : decode c_G_field 76 = .ok (.bipush (-2), 2) := by decide +kernel
theorem d_G_field_78 : decode c_G_field 78 = .ok (.ireturn, 1) := by decide +kernel
theorem d_G_field_79 : decode c_G_field 79 = .ok (.aload_n 0, 1) := by decide +kernel
theorem d_G_field_80 : decode c_G_field 80 = .ok (.getfield 12, 3) := by decide +kernel
theorem d_G_field_83 : decode c_G_field 83 = .ok (.iload_n 1, 1) := by decide +kernel
theorem d_G_field_84 : decode c_G_field 84 = .ok (.iload_n 2, 1) := by decide +kernel
theorem d_G_field_85 : decode c_G_field 85 = .ok (.iload_n 3, 1) := by decide +kernel
theorem d_G_field_86 : decode c_G_field 86 = .ok (.iload 4, 2) := by decide +kernel
theorem d_G_field_88 : decode c_G_field 88 = .ok (.invokevirtual 79, 3) := by decide +kernel
theorem d_G_field_91 : decode c_G_field 91 = .ok (.ireturn, 1) := by decide +kernel
theorem d_G_row_0 : decode c_G_row 0 = .ok (.aload_n 0, 1) := by decide +kernel
theorem d_G_row_1 : decode c_G_row 1 = .ok (.getfield 12, 3) := by decide +kernel
theorem d_G_row_4 : decode c_G_row 4 = .ok (.iload_n 1, 1) := by decide +kernel
theorem d_G_row_5 : decode c_G_row 5 = .ok (.invokevirtual 68, 3) := by decide +kernel
theorem d_G_row_8 : decode c_G_row 8 = .ok (.ifCond .ne 5, 3) := by decide +kernel
theorem d_G_row_11 : decode c_G_row 11 = .ok (.iconst (-1), 1) := by decide +kernel
theorem d_G_row_12 : decode c_G_row 12 = .ok (.ireturn, 1) := by decide +kernel
theorem d_G_row_13 : decode c_G_row 13 = .ok (.aload_n 0, 1) := by decide +kernel
theorem d_G_row_14 : decode c_G_row 14 = .ok (.getfield 19, 3) := by decide +kernel
theorem d_G_row_17 : decode c_G_row 17 = .ok (.getfield 61, 3) := by decide +kernel
theorem d_G_row_20 : decode c_G_row 20 = .ok (.bipush 12, 2) := by decide +kernel
theorem d_G_row_22 : decode c_G_row 22 = .ok (.if_icmp .lt 6, 3) := by decide +kernel
theorem d_G_row_25 : decode c_G_row 25 = .ok (.bipush (-2), 2) := by decide +kernel
theorem d_G_row_27 : decode c_G_row 27 = .ok (.ireturn, 1) := by decide +kernel
theorem d_G_row_28 : decode c_G_row 28 = .ok (.aload_n 0, 1) := by decide +kernel
theorem d_G_row_29 : decode c_G_row 29 = .ok (.getfield 19, 3) := by decide +kernel
theorem d_G_row_32 : decode c_G_row 32 = .ok (.iload_n 1, 1) := by decide +kernel
theorem d_G_row_33 : decode c_G_row 33 = .ok (.invokevirtual 83, 3) := by decide +kernel
theorem d_G_row_36 : decode c_G_row 36 = .ok (.ireturn, 1) := by decide +kernel
theorem d_G_put_0 : decode c_G_put 0 = .ok (.aload_n 0, 1) := by decide +kernel
theorem d_G_put_1 : decode c_G_put 1 = .ok (.iload_n 1, 1) := by decide +kernel
theorem d_G_put_2 : decode c_G_put 2 = .ok (.iload_n 2, 1) := by decide +kernel
theorem d_G_put_3 : decode c_G_put 3 = .ok (.invokevirtual 87, 3) := by decide +kernel
theorem d_G_put_6 : decode c_G_put 6 = .ok (.ifCond .ne 14, 3) := by decide +kernel
theorem d_G_put_9 : decode c_G_put 9 = .ok (.iload_n 3, 1) := by decide +kernel
theorem d_G_put_10 : decode c_G_put 10 = .ok (.iconst 0, 1) := by decide +kernel
theorem d_G_put_11 : decode c_G_put 11 = .ok (.sipush 999, 3) := by decide +kernel
theorem d_G_put_14 : decode c_G_put 14 = .ok (.invokestatic 72, 3) := by decide +kernel
theorem d_G_put_17 : decode c_G_put 17 = .ok (.ifCond .ne 5, 3) := by decide +kernel
theorem d_G_put_20 : decode c_G_put 20 = .ok (.iconst (-1), 1) := by decide +kernel
theorem d_G_put_21 : decode c_G_put 21 = .ok (.ireturn, 1) := by decide +kernel
theorem d_G_put_22 : decode c_G_put 22 = .ok (.aload_n 0, 1) := by decide +kernel
theorem d_G_put_23 : decode c_G_put 23 = .ok (.getfield 19, 3) := by decide +kernel
theorem d_G_put_26 : decode c_G_put 26 = .ok (.iload_n 1, 1) := by decide +kernel
theorem d_G_put_27 : decode c_G_put 27 = .ok (.iload_n 2, 1) := by decide +kernel
theorem d_G_put_28 : decode c_G_put 28 = .ok (.iload_n 3, 1) := by decide +kernel
theorem d_G_put_29 : decode c_G_put 29 = .ok (.invokevirtual 91, 3) := by decide +kernel
theorem d_G_put_32 : decode c_G_put 32 = .ok (.iconst 0, 1) := by decide +kernel
theorem d_G_put_33 : decode c_G_put 33 = .ok (.ireturn, 1) := by decide +kernel
theorem d_G_link_0 : decode c_G_link 0 = .ok (.aload_n 0, 1) := by decide +kernel
theorem d_G_link_1 : decode c_G_link 1 = .ok (.iload_n 1, 1) := by decide +kernel
theorem d_G_link_2 : decode c_G_link 2 = .ok (.iload_n 2, 1) := by decide +kernel
theorem d_G_link_3 : decode c_G_link 3 = .ok (.invokevirtual 87, 3) := by decide +kernel
theorem d_G_link_6 : decode c_G_link 6 = .ok (.istore 4, 2) := by decide +kernel
theorem d_G_link_8 : decode c_G_link 8 = .ok (.iload 4, 2) := by decide +kernel
theorem d_G_link_10 : decode c_G_link 10 = .ok (.iconst 1, 1) := by decide +kernel
theorem d_G_link_11 : decode c_G_link 11 = .ok (.if_icmp .eq 9, 3) := by decide +kernel
theorem d_G_link_14 : decode c_G_link 14 = .ok (.iload 4, 2) := by decide +kernel
theorem d_G_link_16 : decode c_G_link 16 = .ok (.iconst 2, 1) := by decide +kernel
theorem d_G_link_17 : decode c_G_link 17 = .ok (.if_icmp .ne 14, 3) := by decide +kernel
theorem d_G_link_20 : decode c_G_link 20 = .ok (.aload_n 0, 1) := by decide +kernel
theorem d_G_link_21 : decode c_G_link 21 = .ok (.getfield 19, 3) := by decide +kernel
theorem d_G_link_24 : decode c_G_link 24 = .ok (.iload_n 3, 1) := by decide +kernel
theorem d_G_link_25 : decode c_G_link 25 = .ok (.invokevirtual 95, 3) := by decide +kernel
theorem d_G_link_28 : decode c_G_link 28 = .ok (.ifCond .ne 5, 3) := by decide +kernel
theorem d_G_link_31 : decode c_G_link 31 = .ok (.iconst (-1), 1) := by decide +kernel
theorem d_G_link_32 : decode c_G_link 32 = .ok (.ireturn, 1) := by decide +kernel
theorem d_G_link_33 : decode c_G_link 33 = .ok (.aload_n 0, 1) := by decide +kernel
theorem d_G_link_34 : decode c_G_link 34 = .ok (.getfield 12, 3) := by decide +kernel
theorem d_G_link_37 : decode c_G_link 37 = .ok (.aload_n 0, 1) := by decide +kernel
theorem d_G_link_38 : decode c_G_link 38 = .ok (.getfield 19, 3) := by decide +kernel
theorem d_G_link_41 : decode c_G_link 41 = .ok (.iload_n 1, 1) := by decide +kernel
theorem d_G_link_42 : decode c_G_link 42 = .ok (.invokevirtual 98, 3) := by decide +kernel
theorem d_G_link_45 : decode c_G_link 45 = .ok (.iload_n 2, 1) := by decide +kernel
theorem d_G_link_46 : decode c_G_link 46 = .ok (.invokevirtual 101, 3) := by decide +kernel
theorem d_G_link_49 : decode c_G_link 49 = .ok (.istore 5, 2) := by decide +kernel
theorem d_G_link_51 : decode c_G_link 51 = .ok (.iload 5, 2) := by decide +kernel
theorem d_G_link_53 : decode c_G_link 53 = .ok (.iconst 5, 1) := by decide +kernel
theorem d_G_link_54 : decode c_G_link 54 = .ok (.if_icmp .eq 18, 3) := by decide +kernel
theorem d_G_link_57 : decode c_G_link 57 = .ok (.iload 5, 2) := by decide +kernel
theorem d_G_link_59 : decode c_G_link 59 = .ok (.aload_n 0, 1) := by decide +kernel
theorem d_G_link_60 : decode c_G_link 60 = .ok (.getfield 19, 3) := by decide +kernel
theorem d_G_link_63 : decode c_G_link 63 = .ok (.iload_n 3, 1) := by decide +kernel
theorem d_G_link_64 : decode c_G_link 64 = .ok (.invokevirtual 98, 3) := by decide +kernel
theorem d_G_link_67 : decode c_G_link 67 = .ok (.if_icmp .eq 5, 3) := by decide +kernel
theorem d_G_link_70 : decode c_G_link 70 = .ok (.iconst (-1), 1) := by decide +kernel
theorem d_G_link_71 : decode c_G_link 71 = .ok (.ireturn, 1) := by decide +kernel
theorem d_G_link_72 : decode c_G_link 72 = .ok (.iload 4, 2) := by decide +kernel
theorem d_G_link_74 : decode c_G_link 74 = .ok (.iconst 1, 1) := by decide +kernel
theorem d_G_link_75 : decode c_G_link 75 = .ok (.if_icmp .ne 12, 3) := by decide +kernel
theorem d_G_link_78 : decode c_G_link 78 = .ok (.aload_n 0, 1) := by decide +kernel
theorem d_G_link_79 : decode c_G_link 79 = .ok (.getfield 19, 3) := by decide +kernel
theorem d_G_link_82 : decode c_G_link 82 = .ok (.iload_n 1, 1) := by decide +kernel
theorem d_G_link_83 : decode c_G_link 83 = .ok (.iload_n 2, 1) := by decide +kernel
theorem d_G_link_84 : decode c_G_link 84 = .ok (.invokevirtual 104, 3) := by decide +kernel
theorem d_G_link_87 : decode c_G_link 87 = .ok (.aload_n 0, 1) := by decide +kernel
theorem d_G_link_88 : decode c_G_link 88 = .ok (.getfield 19, 3) := by decide +kernel
theorem d_G_link_91 : decode c_G_link 91 = .ok (.iload_n 1, 1) := by decide +kernel
theorem d_G_link_92 : decode c_G_link 92 = .ok (.iload_n 2, 1) := by decide +kernel
theorem d_G_link_93 : decode c_G_link 93 = .ok (.invokevirtual 108, 3) := by decide +kernel
theorem d_G_link_96 : decode c_G_link 96 = .ok (.iconst 4, 1) := by decide +kernel
theorem d_G_link_97 : decode c_G_link 97 = .ok (.if_icmp .lt 6, 3) := by decide +kernel
theorem d_G_link_100 : decode c_G_link 100 = .ok (.bipush (-2), 2) := by decide +kernel
theorem d_G_link_102 : decode c_G_link 102 = .ok (.ireturn, 1) := by decide +kernel
theorem d_G_link_103 : decode c_G_link 103 = .ok (.aload_n 0, 1) := by decide +kernel
theorem d_G_link_104 : decode c_G_link 104 = .ok (.getfield 19, 3) := by decide +kernel
theorem d_G_link_107 : decode c_G_link 107 = .ok (.iload_n 1, 1) := by decide +kernel
theorem d_G_link_108 : decode c_G_link 108 = .ok (.iload_n 2, 1) := by decide +kernel
theorem d_G_link_109 : decode c_G_link 109 = .ok (.iload_n 3, 1) := by decide +kernel
theorem d_G_link_110 : decode c_G_link 110 = .ok (.invokevirtual 111, 3) := by decide +kernel
theorem d_G_link_113 : decode c_G_link 113 = .ok (.ireturn, 1) := by decide +kernel
theorem d_G_clear_0 : decode c_G_clear 0 = .ok (.aload_n 0, 1) := by decide +kernel
theorem d_G_clear_1 : decode c_G_clear 1 = .ok (.iload_n 1, 1) := by decide +kernel
theorem d_G_clear_2 : decode c_G_clear 2 = .ok (.iload_n 2, 1) := by decide +kernel
theorem d_G_clear_3 : decode c_G_clear 3 = .ok (.invokevirtual 87, 3) := by decide +kernel
theorem d_G_clear_6 : decode c_G_clear 6 = .ok (.iconst (-1), 1) := by decide +kernel
theorem d_G_clear_7 : decode c_G_clear 7 = .ok (.if_icmp .ne 5, 3) := by decide +kernel
theorem d_G_clear_10 : decode c_G_clear 10 = .ok (.iconst (-1), 1) := by decide +kernel
theorem d_G_clear_11 : decode c_G_clear 11 = .ok (.ireturn, 1) := by decide +kernel
theorem d_G_clear_12 : decode c_G_clear 12 = .ok (.aload_n 0, 1) := by decide +kernel
theorem d_G_clear_13 : decode c_G_clear 13 = .ok (.getfield 19, 3) := by decide +kernel
theorem d_G_clear_16 : decode c_G_clear 16 = .ok (.iload_n 1, 1) := by decide +kernel
theorem d_G_clear_17 : decode c_G_clear 17 = .ok (.iload_n 2, 1) := by decide +kernel
theorem d_G_clear_18 : decode c_G_clear 18 = .ok (.invokevirtual 104, 3) := by decide +kernel
theorem d_G_clear_21 : decode c_G_clear 21 = .ok (.iconst 0, 1) := by decide +kernel
theorem d_G_clear_22 : decode c_G_clear 22 = .ok (.ireturn, 1) := by decide +kernel
theorem d_G_set_0 : decode c_G_set 0 = .ok (.iload_n 1, 1) := by decide +kernel
theorem d_G_set_1 : decode c_G_set 1 = .ok (.iconst 0, 1) := by decide +kernel
theorem d_G_set_2 : decode c_G_set 2 = .ok (.iconst 3, 1) := by decide +kernel
theorem d_G_set_3 : decode c_G_set 3 = .ok (.invokestatic 72, 3) := by decide +kernel
theorem d_G_set_6 : decode c_G_set 6 = .ok (.ifCond .eq 12, 3) := by decide +kernel
theorem d_G_set_9 : decode c_G_set 9 = .ok (.iload_n 2, 1) := by decide +kernel
theorem d_G_set_10 : decode c_G_set 10 = .ok (.iconst 0, 1) := by decide +kernel
theorem d_G_set_11 : decode c_G_set 11 = .ok (.iconst 1, 1) := by decide +kernel
theorem d_G_set_12 : decode c_G_set 12 = .ok (.invokestatic 72, 3) := by decide +kernel
theorem d_G_set_15 : decode c_G_set 15 = .ok (.ifCond .ne 5, 3) := by decide +kernel
theorem d_G_set_18 : decode c_G_set 18 = .ok (.iconst (-1), 1) := by decide +kernel
theorem d_G_set_19 : decode c_G_set 19 = .ok (.ireturn, 1) := by decide +kernel
theorem d_G_set_20 : decode c_G_set 20 = .ok (.aload_n 0, 1) := by decide +kernel
theorem d_G_set_21 : decode c_G_set 21 = .ok (.getfield 30, 3) := by decide +kernel
theorem d_G_set_24 : decode c_G_set 24 = .ok (.iload_n 1, 1) := by decide +kernel
theorem d_G_set_25 : decode c_G_set 25 = .ok (.iload_n 2, 1) := by decide +kernel
theorem d_G_set_26 : decode c_G_set 26 = .ok (.iastore, 1) := by decide +kernel
theorem d_G_set_27 : decode c_G_set 27 = .ok (.iconst 0, 1) := by decide +kernel
theorem d_G_set_28 : decode c_G_set 28 = .ok (.ireturn, 1) := by decide +kernel
theorem d_G_token_0 : decode c_G_token 0 = .ok (.iload_n 1, 1) := by decide +kernel
theorem d_G_token_1 : decode c_G_token 1 = .ok (.iconst 0, 1) := by decide +kernel
theorem d_G_token_2 : decode c_G_token 2 = .ok (.iconst 3, 1) := by decide +kernel
theorem d_G_token_3 : decode c_G_token 3 = .ok (.invokestatic 72, 3) := by decide +kernel
theorem d_G_token_6 : decode c_G_token 6 = .ok (.ifCond .eq 13, 3) := by decide +kernel
theorem d_G_token_9 : decode c_G_token 9 = .ok (.iload_n 2, 1) := by decide +kernel
theorem d_G_token_10 : decode c_G_token 10 = .ok (.iload_n 3, 1) := by decide +kernel
theorem d_G_token_11 : decode c_G_token 11 = .ok (.iload 4, 2) := by decide +kernel
theorem d_G_token_13 : decode c_G_token 13 = .ok (.invokestatic 115, 3) := by decide +kernel
theorem d_G_token_16 : decode c_G_token 16 = .ok (.ifCond .ne 5, 3) := by decide +kernel
theorem d_G_token_19 : decode c_G_token 19 = .ok (.iconst (-1), 1) := by decide +kernel
theorem d_G_token_20 : decode c_G_token 20 = .ok (.ireturn, 1) := by decide +kernel
theorem d_G_token_21 : decode c_G_token 21 = .ok (.aload_n 0, 1) := by decide +kernel
theorem d_G_token_22 : decode c_G_token 22 = .ok (.getfield 26, 3) := by decide +kernel
theorem d_G_token_25 : decode c_G_token 25 = .ok (.getfield 118, 3) := by decide +kernel
theorem d_G_token_28 : decode c_G_token 28 = .ok (.iload_n 1, 1) := by decide +kernel
theorem d_G_token_29 : decode c_G_token 29 = .ok (.iaload, 1) := by decide +kernel
theorem d_G_token_30 : decode c_G_token 30 = .ok (.bipush 16, 2) := by decide +kernel
theorem d_G_token_32 : decode c_G_token 32 = .ok (.if_icmp .lt 6, 3) := by decide +kernel
theorem d_G_token_35 : decode c_G_token 35 = .ok (.bipush (-2), 2) := by decide +kernel
theorem d_G_token_37 : decode c_G_token 37 = .ok (.ireturn, 1) := by decide +kernel
theorem d_G_token_38 : decode c_G_token 38 = .ok (.aload_n 0, 1) := by decide +kernel
theorem d_G_token_39 : decode c_G_token 39 = .ok (.getfield 26, 3) := by decide +kernel
theorem d_G_token_42 : decode c_G_token 42 = .ok (.iload_n 1, 1) := by decide +kernel
theorem d_G_token_43 : decode c_G_token 43 = .ok (.iload_n 2, 1) := by decide +kernel
theorem d_G_token_44 : decode c_G_token 44 = .ok (.iload_n 3, 1) := by decide +kernel
theorem d_G_token_45 : decode c_G_token 45 = .ok (.iload 4, 2) := by decide +kernel
theorem d_G_token_47 : decode c_G_token 47 = .ok (.invokevirtual 121, 3) := by decide +kernel
theorem d_G_token_50 : decode c_G_token 50 = .ok (.ireturn, 1) := by decide +kernel
theorem d_G_wipe_0 : decode c_G_wipe 0 = .ok (.iload_n 1, 1) := by decide +kernel
theorem d_G_wipe_1 : decode c_G_wipe 1 = .ok (.iconst 0, 1) := by decide +kernel
theorem d_G_wipe_2 : decode c_G_wipe 2 = .ok (.iconst 3, 1) := by decide +kernel
theorem d_G_wipe_3 : decode c_G_wipe 3 = .ok (.invokestatic 72, 3) := by decide +kernel
theorem d_G_wipe_6 : decode c_G_wipe 6 = .ok (.ifCond .ne 5, 3) := by decide +kernel
theorem d_G_wipe_9 : decode c_G_wipe 9 = .ok (.iconst (-1), 1) := by decide +kernel
theorem d_G_wipe_10 : decode c_G_wipe 10 = .ok (.ireturn, 1) := by decide +kernel
theorem d_G_wipe_11 : decode c_G_wipe 11 = .ok (.aload_n 0, 1) := by decide +kernel
theorem d_G_wipe_12 : decode c_G_wipe 12 = .ok (.getfield 26, 3) := by decide +kernel
theorem d_G_wipe_15 : decode c_G_wipe 15 = .ok (.getfield 118, 3) := by decide +kernel
theorem d_G_wipe_18 : decode c_G_wipe 18 = .ok (.iload_n 1, 1) := by decide +kernel
theorem d_G_wipe_19 : decode c_G_wipe 19 = .ok (.iaload, 1) := by decide +kernel
theorem d_G_wipe_20 : decode c_G_wipe 20 = .ok (.istore_n 2, 1) := by decide +kernel
theorem d_G_wipe_21 : decode c_G_wipe 21 = .ok (.aload_n 0, 1) := by decide +kernel
theorem d_G_wipe_22 : decode c_G_wipe 22 = .ok (.getfield 26, 3) := by decide +kernel
theorem d_G_wipe_25 : decode c_G_wipe 25 = .ok (.getfield 118, 3) := by decide +kernel
theorem d_G_wipe_28 : decode c_G_wipe 28 = .ok (.iload_n 1, 1) := by decide +kernel
theorem d_G_wipe_29 : decode c_G_wipe 29 = .ok (.iconst 0, 1) := by decide +kernel
theorem d_G_wipe_30 : decode c_G_wipe 30 = .ok (.iastore, 1) := by decide +kernel
theorem d_G_wipe_31 : decode c_G_wipe 31 = .ok (.iload_n 2, 1) := by decide +kernel
theorem d_G_wipe_32 : decode c_G_wipe 32 = .ok (.ireturn, 1) := by decide +kernel
theorem d_G_check_0 : decode c_G_check 0 = .ok (.aload_n 0, 1) := by decide +kernel
theorem d_G_check_1 : decode c_G_check 1 = .ok (.getfield 12, 3) := by decide +kernel
theorem d_G_check_4 : decode c_G_check 4 = .ok (.iload_n 1, 1) := by decide +kernel
theorem d_G_check_5 : decode c_G_check 5 = .ok (.invokevirtual 68, 3) := by decide +kernel
theorem d_G_check_8 : decode c_G_check 8 = .ok (.ifCond .ne 5, 3) := by decide +kernel
theorem d_G_check_11 : decode c_G_check 11 = .ok (.iconst (-1), 1) := by decide +kernel
theorem d_G_check_12 : decode c_G_check 12 = .ok (.ireturn, 1) := by decide +kernel
theorem d_G_check_13 : decode c_G_check 13 = .ok (.aload_n 0, 1) := by decide +kernel
theorem d_G_check_14 : decode c_G_check 14 = .ok (.getfield 39, 3) := by decide +kernel
theorem d_G_check_17 : decode c_G_check 17 = .ok (.iload_n 1, 1) := by decide +kernel
theorem d_G_check_18 : decode c_G_check 18 = .ok (.invokevirtual 125, 3) := by decide +kernel
theorem d_G_check_21 : decode c_G_check 21 = .ok (.ifCond .eq 7, 3) := by decide +kernel
theorem d_G_check_24 : decode c_G_check 24 = .ok (.iconst 0, 1) := by decide +kernel
theorem d_G_check_25 : decode c_G_check 25 = .ok (.goto 5, 3) := by decide +kernel
theorem d_G_check_28 : decode c_G_check 28 = .ok (.bipush (-3), 2) := by decide +kernel
theorem d_G_check_30 : decode c_G_check 30 = .ok (.ireturn, 1) := by decide +kernel
theorem d_G_place_0 : decode c_G_place 0 = .ok (.aload_n 0, 1) := by decide +kernel
theorem d_G_place_1 : decode c_G_place 1 = .ok (.getfield 39, 3) := by decide +kernel
theorem d_G_place_4 : decode c_G_place 4 = .ok (.getfield 128, 3) := by decide +kernel
theorem d_G_place_7 : decode c_G_place 7 = .ok (.iconst (-1), 1) := by decide +kernel
theorem d_G_place_8 : decode c_G_place 8 = .ok (.if_icmp .ne 7, 3) := by decide +kernel
theorem d_G_place_11 : decode c_G_place 11 = .ok (.iconst (-1), 1) := by decide +kernel
theorem d_G_place_12 : decode c_G_place 12 = .ok (.goto 10, 3) := by decide +kernel
theorem d_G_place_15 : decode c_G_place 15 = .ok (.aload_n 0, 1) := by decide +kernel
theorem d_G_place_16 : decode c_G_place 16 = .ok (.getfield 39, 3) := by decide +kernel
theorem d_G_place_19 : decode c_G_place 19 = .ok (.getfield 128, 3) := by decide +kernel
theorem d_G_place_22 : decode c_G_place 22 = .ok (.ireturn, 1) := by decide +kernel
theorem d_G_ask_0 : decode c_G_ask 0 = .ok (.aload_n 0, 1) := by decide +kernel
theorem d_G_ask_1 : decode c_G_ask 1 = .ok (.getfield 19, 3) := by decide +kernel
theorem d_G_ask_4 : decode c_G_ask 4 = .ok (.iload_n 1, 1) := by decide +kernel
theorem d_G_ask_5 : decode c_G_ask 5 = .ok (.invokevirtual 95, 3) := by decide +kernel
theorem d_G_ask_8 : decode c_G_ask 8 = .ok (.ifCond .ne 5, 3) := by decide +kernel
theorem d_G_ask_11 : decode c_G_ask 11 = .ok (.iconst (-1), 1) := by decide +kernel
theorem d_G_ask_12 : decode c_G_ask 12 = .ok (.ireturn, 1) := by decide +kernel
theorem d_G_ask_13 : decode c_G_ask 13 = .ok (.aload_n 0, 1) := by decide +kernel
theorem d_G_ask_14 : decode c_G_ask 14 = .ok (.getfield 39, 3) := by decide +kernel
theorem d_G_ask_17 : decode c_G_ask 17 = .ok (.aload_n 0, 1) := by decide +kernel
theorem d_G_ask_18 : decode c_G_ask 18 = .ok (.getfield 19, 3) := by decide +kernel
theorem d_G_ask_21 : decode c_G_ask 21 = .ok (.iload_n 1, 1) := by decide +kernel
theorem d_G_ask_22 : decode c_G_ask 22 = .ok (.invokevirtual 98, 3) := by decide +kernel
theorem d_G_ask_25 : decode c_G_ask 25 = .ok (.invokevirtual 125, 3) := by decide +kernel
theorem d_G_ask_28 : decode c_G_ask 28 = .ok (.ifCond .ne 13, 3) := by decide +kernel
theorem d_G_ask_31 : decode c_G_ask 31 = .ok (.aload_n 0, 1) := by decide +kernel
theorem d_G_ask_32 : decode c_G_ask 32 = .ok (.getfield 53, 3) := by decide +kernel
theorem d_G_ask_35 : decode c_G_ask 35 = .ok (.invokevirtual 131, 3) := by decide +kernel
theorem d_G_ask_38 : decode c_G_ask 38 = .ok (.bipush (-3), 2) := by decide +kernel
theorem d_G_ask_40 : decode c_G_ask 40 = .ok (.ireturn, 1) := by decide +kernel
theorem d_G_ask_41 : decode c_G_ask 41 = .ok (.aload_n 0, 1) := by decide +kernel
theorem d_G_ask_42 : decode c_G_ask 42 = .ok (.getfield 53, 3) := by decide +kernel
theorem d_G_ask_45 : decode c_G_ask 45 = .ok (.iload_n 1, 1) := by decide +kernel
theorem d_G_ask_46 : decode c_G_ask 46 = .ok (.aload_n 0, 1) := by decide +kernel
theorem d_G_ask_47 : decode c_G_ask 47 = .ok (.getfield 39, 3) := by decide +kernel
theorem d_G_ask_50 : decode c_G_ask 50 = .ok (.invokevirtual 134, 3) := by decide +kernel
theorem d_G_ask_53 : decode c_G_ask 53 = .ok (.invokevirtual 138, 3) := by decide +kernel
theorem d_G_ask_56 : decode c_G_ask 56 = .ok (.ireturn, 1) := by decide +kernel
theorem d_G_code_0 : decode c_G_code 0 = .ok (.iload_n 1, 1) := by decide +kernel
theorem d_G_code_1 : decode c_G_code 1 = .ok (.iconst 0, 1) := by decide +kernel
theorem d_G_code_2 : decode c_G_code 2 = .ok (.aload_n 0, 1) := by decide +kernel
theorem d_G_code_3 : decode c_G_code 3 = .ok (.getfield 53, 3) := by decide +kernel
theorem d_G_code_6 : decode c_G_code 6 = .ok (.getfield 142, 3) := by decide +kernel
theorem d_G_code_9 : decode c_G_code 9 = .ok (.iconst 1, 1) := by decide +kernel
theorem d_G_code_10 : decode c_G_code 10 = .ok (.isub, 1) := by decide +kernel
theorem d_G_code_11 : decode c_G_code 11 = .ok (.invokestatic 72, 3) := by decide +kernel
theorem d_G_code_14 : decode c_G_code 14 = .ok (.ifCond .eq 15, 3) := by decide +kernel
theorem d_G_code_17 : decode c_G_code 17 = .ok (.aload_n 0, 1) := by decide +kernel
theorem d_G_code_18 : decode c_G_code 18 = .ok (.getfield 53, 3) := by decide +kernel
theorem d_G_code_21 : decode c_G_code 21 = .ok (.getfield 145, 3) := by decide +kernel
theorem d_G_code_24 : decode c_G_code 24 = .ok (.iload_n 1, 1) := by decide +kernel
theorem d_G_code_25 : decode c_G_code 25 = .ok (.iaload, 1) := by decide +kernel
theorem d_G_code_26 : decode c_G_code 26 = .ok (.goto 4, 3) := by decide +kernel
theorem d_G_code_29 : decode c_G_code 29 = .ok (.iconst (-1), 1) := by decide +kernel
theorem d_G_code_30 : decode c_G_code 30 = .ok (.ireturn, 1) := by decide +kernel
theorem d_G_missing_0 : decode c_G_missing 0 = .ok (.aload_n 0, 1) := by decide +kernel
theorem d_G_missing_1 : decode c_G_missing 1 = .ok (.getfield 53, 3) := by decide +kernel
theorem d_G_missing_4 : decode c_G_missing 4 = .ok (.getfield 148, 3) := by decide +kernel
theorem d_G_missing_7 : decode c_G_missing 7 = .ok (.iload_n 1, 1) := by decide +kernel
theorem d_G_missing_8 : decode c_G_missing 8 = .ok (.iload_n 2, 1) := by decide +kernel
theorem d_G_missing_9 : decode c_G_missing 9 = .ok (.invokevirtual 152, 3) := by decide +kernel
theorem d_G_missing_12 : decode c_G_missing 12 = .ok (.ireturn, 1) := by decide +kernel
theorem d_G_count_0 : decode c_G_count 0 = .ok (.iload_n 1, 1) := by decide +kernel
theorem d_G_count_1 : decode c_G_count 1 = .ok (.tableswitch 66 0 3 #[31, 39, 47, 55], 31) := by decide +kernel
theorem d_G_count_32 : decode c_G_count 32 = .ok (.aload_n 0, 1) := by decide +kernel
theorem d_G_count_33 : decode c_G_count 33 = .ok (.getfield 12, 3) := by decide +kernel
theorem d_G_count_36 : decode c_G_count 36 = .ok (.getfield 57, 3) := by decide +kernel
theorem d_G_count_39 : decode c_G_count 39 = .ok (.ireturn, 1) := by decide +kernel
theorem d_G_count_40 : decode c_G_count 40 = .ok (.aload_n 0, 1) := by decide +kernel
theorem d_G_count_41 : decode c_G_count 41 = .ok (.getfield 19, 3) := by decide +kernel
theorem d_G_count_44 : decode c_G_count 44 = .ok (.getfield 61, 3) := by decide +kernel
theorem d_G_count_47 : decode c_G_count 47 = .ok (.ireturn, 1) := by decide +kernel
theorem d_G_count_48 : decode c_G_count 48 = .ok (.aload_n 0, 1) := by decide +kernel
theorem d_G_count_49 : decode c_G_count 49 = .ok (.getfield 53, 3) := by decide +kernel
theorem d_G_count_52 : decode c_G_count 52 = .ok (.getfield 142, 3) := by decide +kernel
theorem d_G_count_55 : decode c_G_count 55 = .ok (.ireturn, 1) := by decide +kernel
theorem d_G_count_56 : decode c_G_count 56 = .ok (.aload_n 0, 1) := by decide +kernel
theorem d_G_count_57 : decode c_G_count 57 = .ok (.getfield 53, 3) := by decide +kernel
theorem d_G_count_60 : decode c_G_count 60 = .ok (.getfield 148, 3) := by decide +kernel
theorem d_G_count_63 : decode c_G_count 63 = .ok (.getfield 157, 3) := by decide +kernel
theorem d_G_count_66 : decode c_G_count 66 = .ok (.ireturn, 1) := by decide +kernel
theorem d_G_count_67 : decode c_G_count 67 = .ok (.iload_n 1, 1) := by decide +kernel
theorem d_G_count_68 : decode c_G_count 68 = .ok (.iconst 4, 1) := by decide +kernel
theorem d_G_count_69 : decode c_G_count 69 = .ok (.bipush 7, 2) := by decide +kernel
theorem d_G_count_71 : decode c_G_count 71 = .ok (.invokestatic 72, 3) := by decide +kernel
theorem d_G_count_74 : decode c_G_count 74 = .ok (.ifCond .eq 17, 3) := by decide +kernel
theorem d_G_count_77 : decode c_G_count 77 = .ok (.aload_n 0, 1) := by decide +kernel
theorem d_G_count_78 : decode c_G_count 78 = .ok (.getfield 26, 3) := by decide +kernel
theorem d_G_count_81 : decode c_G_count 81 = .ok (.getfield 118, 3) := by decide +kernel
theorem d_G_count_84 : decode c_G_count 84 = .ok (.iload_n 1, 1) := by decide +kernel
theorem d_G_count_85 : decode c_G_count 85 = .ok (.iconst 4, 1) := by decide +kernel
theorem d_G_count_86 : decode c_G_count 86 = .ok (.isub, 1) := by decide +kernel
theorem d_G_count_87 : decode c_G_count 87 = .ok (.iaload, 1) := by decide +kernel
theorem d_G_count_88 : decode c_G_count 88 = .ok (.goto 4, 3) := by decide +kernel
theorem d_G_count_91 : decode c_G_count 91 = .ok (.iconst (-1), 1) := by decide +kernel
theorem d_G_count_92 : decode c_G_count 92 = .ok (.ireturn, 1) := by decide +kernel
theorem d_G_isWithin_0 : decode c_G_isWithin 0 = .ok (.iload_n 0, 1) := by decide +kernel
theorem d_G_isWithin_1 : decode c_G_isWithin 1 = .ok (.iload_n 1, 1) := by decide +kernel
theorem d_G_isWithin_2 : decode c_G_isWithin 2 = .ok (.if_icmp .lt 12, 3) := by decide +kernel
theorem d_G_isWithin_5 : decode c_G_isWithin 5 = .ok (.iload_n 0, 1) := by decide +kernel
theorem d_G_isWithin_6 : decode c_G_isWithin 6 = .ok (.iload_n 2, 1) := by decide +kernel
theorem d_G_isWithin_7 : decode c_G_isWithin 7 = .ok (.if_icmp .gt 7, 3) := by decide +kernel
theorem d_G_isWithin_10 : decode c_G_isWithin 10 = .ok (.iconst 1, 1) := by decide +kernel
theorem d_G_isWithin_11 : decode c_G_isWithin 11 = .ok (.goto 4, 3) := by decide +kernel
theorem d_G_isWithin_14 : decode c_G_isWithin 14 = .ok (.iconst 0, 1) := by decide +kernel
theorem d_G_isWithin_15 : decode c_G_isWithin 15 = .ok (.ireturn, 1) := by decide +kernel
theorem d_G_isTokenInRange_0 : decode c_G_isTokenInRange 0 = .ok (.iload_n 0, 1) := by decide +kernel
theorem d_G_isTokenInRange_1 : decode c_G_isTokenInRange 1 = .ok (.tableswitch 110 0 5 #[39, 39, 64, 72, 79, 103], 39) := by decide +kernel
theorem d_G_isTokenInRange_40 : decode c_G_isTokenInRange 40 = .ok (.iload_n 1, 1) := by decide +kernel
theorem d_G_isTokenInRange_41 : decode c_G_isTokenInRange 41 = .ok (.iconst 0, 1) := by decide +kernel
theorem d_G_isTokenInRange_42 : decode c_G_isTokenInRange 42 = .ok (.bipush 9, 2) := by decide +kernel
theorem d_G_isTokenInRange_44 : decode c_G_isTokenInRange 44 = .ok (.invokestatic 72, 3) := by decide +kernel
theorem d_G_isTokenInRange_47 : decode c_G_isTokenInRange 47 = .ok (.ifCond .eq 16, 3) := by decide +kernel
theorem d_G_isTokenInRange_50 : decode c_G_isTokenInRange 50 = .ok (.iload_n 2, 1) := by decide +kernel
theorem d_G_isTokenInRange_51 : decode c_G_isTokenInRange 51 = .ok (.iconst 0, 1) := by decide +kernel
theorem d_G_isTokenInRange_52 : decode c_G_isTokenInRange 52 = .ok (.iconst 3, 1) := by decide +kernel
theorem d_G_isTokenInRange_53 : decode c_G_isTokenInRange 53 = .ok (.invokestatic 72, 3) := by decide +kernel
theorem d_G_isTokenInRange_56 : decode c_G_isTokenInRange 56 = .ok (.ifCond .eq 7, 3) := by decide +kernel
theorem d_G_isTokenInRange_59 : decode c_G_isTokenInRange 59 = .ok (.iconst 1, 1) := by decide +kernel
theorem d_G_isTokenInRange_60 : decode c_G_isTokenInRange 60 = .ok (.goto 4, 3) := by decide +kernel
theorem d_G_isTokenInRange_63 : decode c_G_isTokenInRange 63 = .ok (.iconst 0, 1) := by decide +kernel
theorem d_G_isTokenInRange_64 : decode c_G_isTokenInRange 64 = .ok (.ireturn, 1) := by decide +kernel
theorem d_G_isTokenInRange_65 : decode c_G_isTokenInRange 65 = .ok (.iload_n 1, 1) := by decide +kernel
theorem d_G_isTokenInRange_66 : decode c_G_isTokenInRange 66 = .ok (.iconst 0, 1) := by decide +kernel
theorem d_G_isTokenInRange_67 : decode c_G_isTokenInRange 67 = .ok (.bipush 9, 2) := by decide +kernel
theorem d_G_isTokenInRange_69 : decode c_G_isTokenInRange 69 = .ok (.invokestatic 72, 3) := by decide +kernel
theorem d_G_isTokenInRange_72 : decode c_G_isTokenInRange 72 = .ok (.ireturn, 1) := by decide +kernel
theorem d_G_isTokenInRange_73 : decode c_G_isTokenInRange 73 = .ok (.iload_n 1, 1) := by decide +kernel
theorem d_G_isTokenInRange_74 : decode c_G_isTokenInRange 74 = .ok (.iconst 0, 1) := by decide +kernel
theorem d_G_isTokenInRange_75 : decode c_G_isTokenInRange 75 = .ok (.iconst 4, 1) := by decide +kernel
theorem d_G_isTokenInRange_76 : decode c_G_isTokenInRange 76 = .ok (.invokestatic 72, 3) := by decide +kernel
theorem d_G_isTokenInRange_79 : decode c_G_isTokenInRange 79 = .ok (.ireturn, 1) := by decide +kernel
theorem d_G_isTokenInRange_80 : decode c_G_isTokenInRange 80 = .ok (.iload_n 1, 1) := by decide +kernel
theorem d_G_isTokenInRange_81 : decode c_G_isTokenInRange 81 = .ok (.iconst 0, 1) := by decide +kernel
theorem d_G_isTokenInRange_82 : decode c_G_isTokenInRange 82 = .ok (.iconst 3, 1) := by decide +kernel
theorem d_G_isTokenInRange_83 : decode c_G_isTokenInRange 83 = .ok (.invokestatic 72, 3) := by decide +kernel
theorem d_G_isTokenInRange_86 : decode c_G_isTokenInRange 86 = .ok (.ifCond .eq 16, 3) := by decide +kernel
theorem d_G_isTokenInRange_89 : decode c_G_isTokenInRange 89 = .ok (.iload_n 2, 1) := by decide +kernel
theorem d_G_isTokenInRange_90 : decode c_G_isTokenInRange 90 = .ok (.iconst 0, 1) := by decide +kernel
theorem d_G_isTokenInRange_91 : decode c_G_isTokenInRange 91 = .ok (.iconst 1, 1) := by decide +kernel
theorem d_G_isTokenInRange_92 : decode c_G_isTokenInRange 92 = .ok (.invokestatic 72, 3) := by decide +kernel
theorem d_G_isTokenInRange_95 : decode c_G_isTokenInRange 95 = .ok (.ifCond .eq 7, 3) := by decide +kernel
theorem d_G_isTokenInRange_98 : decode c_G_isTokenInRange 98 = .ok (.iconst 1, 1) := by decide +kernel
theorem d_G_isTokenInRange_99 : decode c_G_isTokenInRange 99 = .ok (.goto 4, 3) := by decide +kernel
theorem d_G_isTokenInRange_102 : decode c_G_isTokenInRange 102 = .ok (.iconst 0, 1) := by decide +kernel
theorem d_G_isTokenInRange_103 : decode c_G_isTokenInRange 103 = .ok (.ireturn, 1) := by decide +kernel
theorem d_G_isTokenInRange_104 : decode c_G_isTokenInRange 104 = .ok (.iload_n 1, 1) := by decide +kernel
theorem d_G_isTokenInRange_105 : decode c_G_isTokenInRange 105 = .ok (.iconst 1, 1) := by decide +kernel
theorem d_G_isTokenInRange_106 : decode c_G_isTokenInRange 106 = .ok (.iconst 3, 1) := by decide +kernel
theorem d_G_isTokenInRange_107 : decode c_G_isTokenInRange 107 = .ok (.invokestatic 72, 3) := by decide +kernel
theorem d_G_isTokenInRange_110 : decode c_G_isTokenInRange 110 = .ok (.ireturn, 1) := by decide +kernel
theorem d_G_isTokenInRange_111 : decode c_G_isTokenInRange 111 = .ok (.iload_n 0, 1) := by decide +kernel
theorem d_G_isTokenInRange_112 : decode c_G_isTokenInRange 112 = .ok (.bipush 6, 2) := by decide +kernel
theorem d_G_isTokenInRange_114 : decode c_G_isTokenInRange 114 = .ok (.if_icmp .ne 7, 3) := by decide +kernel
theorem d_G_isTokenInRange_117 : decode c_G_isTokenInRange 117 = .ok (.iconst 1, 1) := by decide +kernel
theorem d_G_isTokenInRange_118 : decode c_G_isTokenInRange 118 = .ok (.goto 4, 3) := by decide +kernel
theorem d_G_isTokenInRange_121 : decode c_G_isTokenInRange 121 = .ok (.iconst 0, 1) := by decide +kernel
theorem d_G_isTokenInRange_122 : decode c_G_isTokenInRange 122 = .ok (.ireturn, 1) := by decide +kernel
theorem d_G_hasSetBehind_0 : decode c_G_hasSetBehind 0 = .ok (.iload_n 0, 1) := by decide +kernel
theorem d_G_hasSetBehind_1 : decode c_G_hasSetBehind 1 = .ok (.iconst 1, 1) := by decide +kernel
theorem d_G_hasSetBehind_2 : decode c_G_hasSetBehind 2 = .ok (.if_icmp .eq 13, 3) := by decide +kernel
theorem d_G_hasSetBehind_5 : decode c_G_hasSetBehind 5 = .ok (.iload_n 0, 1) := by decide +kernel
theorem d_G_hasSetBehind_6 : decode c_G_hasSetBehind 6 = .ok (.iconst 3, 1) := by decide +kernel
theorem d_G_hasSetBehind_7 : decode c_G_hasSetBehind 7 = .ok (.if_icmp .eq 8, 3) := by decide +kernel
theorem d_G_hasSetBehind_10 : decode c_G_hasSetBehind 10 = .ok (.iload_n 0, 1) := by decide +kernel
theorem d_G_hasSetBehind_11 : decode c_G_hasSetBehind 11 = .ok (.iconst 4, 1) := by decide +kernel
theorem d_G_hasSetBehind_12 : decode c_G_hasSetBehind 12 = .ok (.if_icmp .ne 7, 3) := by decide +kernel
theorem d_G_hasSetBehind_15 : decode c_G_hasSetBehind 15 = .ok (.iconst 1, 1) := by decide +kernel
theorem d_G_hasSetBehind_16 : decode c_G_hasSetBehind 16 = .ok (.goto 4, 3) := by decide +kernel
theorem d_G_hasSetBehind_19 : decode c_G_hasSetBehind 19 = .ok (.iconst 0, 1) := by decide +kernel
theorem d_G_hasSetBehind_20 : decode c_G_hasSetBehind 20 = .ok (.ireturn, 1) := by decide +kernel
theorem d_G_kindIn_0 : decode c_G_kindIn 0 = .ok (.aload_n 0, 1) := by decide +kernel
theorem d_G_kindIn_1 : decode c_G_kindIn 1 = .ok (.getfield 19, 3) := by decide +kernel
theorem d_G_kindIn_4 : decode c_G_kindIn 4 = .ok (.iload_n 1, 1) := by decide +kernel
theorem d_G_kindIn_5 : decode c_G_kindIn 5 = .ok (.invokevirtual 95, 3) := by decide +kernel
theorem d_G_kindIn_8 : decode c_G_kindIn 8 = .ok (.ifCond .eq 22, 3) := by decide +kernel
theorem d_G_kindIn_11 : decode c_G_kindIn 11 = .ok (.aload_n 0, 1) := by decide +kernel
theorem d_G_kindIn_12 : decode c_G_kindIn 12 = .ok (.getfield 12, 3) := by decide +kernel
theorem d_G_kindIn_15 : decode c_G_kindIn 15 = .ok (.aload_n 0, 1) := by decide +kernel
theorem d_G_kindIn_16 : decode c_G_kindIn 16 = .ok (.getfield 19, 3) := by decide +kernel
theorem d_G_kindIn_19 : decode c_G_kindIn 19 = .ok (.iload_n 1, 1) := by decide +kernel
theorem d_G_kindIn_20 : decode c_G_kindIn 20 = .ok (.invokevirtual 98, 3) := by decide +kernel
theorem d_G_kindIn_23 : decode c_G_kindIn 23 = .ok (.iload_n 2, 1) := by decide +kernel
theorem d_G_kindIn_24 : decode c_G_kindIn 24 = .ok (.invokevirtual 160, 3) := by decide +kernel
theorem d_G_kindIn_27 : decode c_G_kindIn 27 = .ok (.goto 4, 3) := by decide +kernel
theorem d_G_kindIn_30 : decode c_G_kindIn 30 = .ok (.iconst (-1), 1) := by decide +kernel
theorem d_G_kindIn_31 : decode c_G_kindIn 31 = .ok (.ireturn, 1) := by decide +kernel
theorem d_Mo_init_0 : decode c_Mo_init 0 = .ok (.aload_n 0, 1) := by decide +kernel
theorem d_Mo_init_1 : decode c_Mo_init 1 = .ok (.invokespecial 1, 3) := by decide +kernel
theorem d_Mo_init_4 : decode c_Mo_init 4 = .ok (.aload_n 0, 1) := by decide +kernel
theorem d_Mo_init_5 : decode c_Mo_init 5 = .ok (.iconst 5, 1) := by decide +kernel
theorem d_Mo_init_6 : decode c_Mo_init 6 = .ok (.newarray .int, 2) := by decide +kernel
theorem d_Mo_init_8 : decode c_Mo_init 8 = .ok (.putfield 7, 3) := by decide +kernel
theorem d_Mo_init_11 : decode c_Mo_init 11 = .ok (.aload_n 0, 1) := by decide +kernel
theorem d_Mo_init_12 : decode c_Mo_init 12 = .ok (.bipush 60, 2) := by decide +kernel
theorem d_Mo_init_14 : decode c_Mo_init 14 = .ok (.newarray .int, 2) := by decide +kernel
theorem d_Mo_init_16 : decode c_Mo_init 16 = .ok (.putfield 13, 3) := by decide +kernel
theorem d_Mo_init_19 : decode c_Mo_init 19 = .ok (.aload_n 0, 1) := by decide +kernel
theorem d_Mo_init_20 : decode c_Mo_init 20 = .ok (.bipush 13, 2) := by decide +kernel
theorem d_Mo_init_22 : decode c_Mo_init 22 = .ok (.newarray .int, 2) := by decide +kernel
theorem d_Mo_init_24 : decode c_Mo_init 24 = .ok (.putfield 16, 3) := by decide +kernel
theorem d_Mo_init_27 : decode c_Mo_init 27 = .ok (.aload_n 0, 1) := by decide +kernel
theorem d_Mo_init_28 : decode c_Mo_init 28 = .ok (.bipush 52, 2) := by decide +kernel
theorem d_Mo_init_30 : decode c_Mo_init 30 = .ok (.newarray .int, 2) := by decide +kernel
theorem d_Mo_init_32 : decode c_Mo_init 32 = .ok (.putfield 19, 3) := by decide +kernel
theorem d_Mo_init_35 : decode c_Mo_init 35 = .ok (.aload_n 0, 1) := by decide +kernel
theorem d_Mo_init_36 : decode c_Mo_init 36 = .ok (.sipush 208, 3) := by decide +kernel
theorem d_Mo_init_39 : decode c_Mo_init 39 = .ok (.newarray .int, 2) := by decide +kernel
theorem d_Mo_init_41 : decode c_Mo_init 41 = .ok (.putfield 22, 3) := by decide +kernel
theorem d_Mo_init_44 : decode c_Mo_init 44 = .ok (.aload_n 0, 1) := by decide +kernel
theorem d_Mo_init_45 : decode c_Mo_init 45 = .ok (.iconst 4, 1) := by decide +kernel
theorem d_Mo_init_46 : decode c_Mo_init 46 = .ok (.newarray .int, 2) := by decide +kernel
theorem d_Mo_init_48 : decode c_Mo_init 48 = .ok (.putfield 25, 3) := by decide +kernel
theorem d_Mo_init_51 : decode c_Mo_init 51 = .ok (.aload_n 0, 1) := by decide +kernel
theorem d_Mo_init_52 : decode c_Mo_init 52 = .ok (.iconst 4, 1) := by decide +kernel
theorem d_Mo_init_53 : decode c_Mo_init 53 = .ok (.newarray .int, 2) := by decide +kernel
theorem d_Mo_init_55 : decode c_Mo_init 55 = .ok (.putfield 28, 3) := by decide +kernel
theorem d_Mo_init_58 : decode c_Mo_init 58 = .ok (.aload_n 0, 1) := by decide +kernel
theorem d_Mo_init_59 : decode c_Mo_init 59 = .ok (.bipush 64, 2) := by decide +kernel
theorem d_Mo_init_61 : decode c_Mo_init 61 = .ok (.newarray .int, 2) := by decide +kernel
theorem d_Mo_init_63 : decode c_Mo_init 63 = .ok (.putfield 31, 3) := by decide +kernel
theorem d_Mo_init_66 : decode c_Mo_init 66 = .ok (.aload_n 0, 1) := by decide +kernel
theorem d_Mo_init_67 : decode c_Mo_init 67 = .ok (.bipush 64, 2) := by decide +kernel
theorem d_Mo_init_69 : decode c_Mo_init 69 = .ok (.newarray .int, 2) := by decide +kernel
theorem d_Mo_init_71 : decode c_Mo_init 71 = .ok (.putfield 34, 3) := by decide +kernel
theorem d_Mo_init_74 : decode c_Mo_init 74 = .ok (.aload_n 0, 1) := by decide +kernel
theorem d_Mo_init_75 : decode c_Mo_init 75 = .ok (.bipush 64, 2) := by decide +kernel
theorem d_Mo_init_77 : decode c_Mo_init 77 = .ok (.newarray .int, 2) := by decide +kernel
theorem d_Mo_init_79 : decode c_Mo_init 79 = .ok (.putfield 37, 3) := by decide +kernel
theorem d_Mo_init_82 : decode c_Mo_init 82 = .ok (.aload_n 0, 1) := by decide +kernel
theorem d_Mo_init_83 : decode c_Mo_init 83 = .ok (.iconst (-1), 1) := by decide +kernel
theorem d_Mo_init_84 : decode c_Mo_init 84 = .ok (.putfield 40, 3) := by decide +kernel
theorem d_Mo_init_87 : decode c_Mo_init 87 = .ok (.aload_n 0, 1) := by decide +kernel
theorem d_Mo_init_88 : decode c_Mo_init 88 = .ok (.bipush 70, 2) := by decide +kernel
theorem d_Mo_init_90 : decode c_Mo_init 90 = .ok (.newarray .int, 2) := by decide +kernel
theorem d_Mo_init_92 : decode c_Mo_init 92 = .ok (.putfield 44, 3) := by decide +kernel
theorem d_Mo_init_95 : decode c_Mo_init 95 = .ok (.aload_n 0, 1) := by decide +kernel
theorem d_Mo_init_96 : decode c_Mo_init 96 = .ok (.bipush 70, 2) := by decide +kernel
theorem d_Mo_init_98 : decode c_Mo_init 98 = .ok (.newarray .int, 2) := by decide +kernel
theorem d_Mo_init_100 : decode c_Mo_init 100 = .ok (.putfield 47, 3) := by decide +kernel
theorem d_Mo_init_103 : decode c_Mo_init 103 = .ok (.aload_n 0, 1) := by decide +kernel
theorem d_Mo_init_104 : decode c_Mo_init 104 = .ok (.iconst 4, 1) := by decide +kernel
theorem d_Mo_init_105 : decode c_Mo_init 105 = .ok (.newarray .boolean, 2) := by decide +kernel
theorem d_Mo_init_107 : decode c_Mo_init 107 = .ok (.putfield 50, 3) := by decide +kernel
theorem d_Mo_init_110 : decode c_Mo_init 110 = .ok (.aload_n 0, 1) := by decide +kernel
theorem d_Mo_init_111 : decode c_Mo_init 111 = .ok (.bipush 40, 2) := by decide +kernel
theorem d_Mo_init_113 : decode c_Mo_init 113 = .ok (.newarray .int, 2) := by decide +kernel
theorem d_Mo_init_115 : decode c_Mo_init 115 = .ok (.putfield 54, 3) := by decide +kernel
theorem d_Mo_init_118 : decode c_Mo_init 118 = .ok (.aload_n 0, 1) := by decide +kernel
theorem d_Mo_init_119 : decode c_Mo_init 119 = .ok (.bipush 40, 2) := by decide +kernel
theorem d_Mo_init_121 : decode c_Mo_init 121 = .ok (.newarray .int, 2) := by decide +kernel
theorem d_Mo_init_123 : decode c_Mo_init 123 = .ok (.putfield 57, 3) := by decide +kernel
theorem d_Mo_init_126 : decode c_Mo_init 126 = .ok (.aload_n 0, 1) := by decide +kernel
theorem d_Mo_init_127 : decode c_Mo_init 127 = .ok (.sipush 400, 3) := by decide +kernel
theorem d_Mo_init_130 : decode c_Mo_init 130 = .ok (.newarray .int, 2) := by decide +kernel
theorem d_Mo_init_132 : decode c_Mo_init 132 = .ok (.putfield 60, 3) := by decide +kernel
theorem d_Mo_init_135 : decode c_Mo_init 135 = .ok (.aload_n 0, 1) := by decide +kernel
theorem d_Mo_init_136 : decode c_Mo_init 136 = .ok (.sipush 400, 3) := by decide +kernel
theorem d_Mo_init_139 : decode c_Mo_init 139 = .ok (.newarray .int, 2) := by decide +kernel
theorem d_Mo_init_141 : decode c_Mo_init 141 = .ok (.putfield 63, 3) := by decide +kernel
theorem d_Mo_init_144 : decode c_Mo_init 144 = .ok (.aload_n 0, 1) := by decide +kernel
theorem d_Mo_init_145 : decode c_Mo_init 145 = .ok (.sipush 400, 3) := by decide +kernel
theorem d_Mo_init_148 : decode c_Mo_init 148 = .ok (.newarray .int, 2) := by decide +kernel
theorem d_Mo_init_150 : decode c_Mo_init 150 = .ok (.putfield 66, 3) := by decide +kernel
theorem d_Mo_init_153 : decode c_Mo_init 153 = .ok (.aload_n 0, 1) := by decide +kernel
theorem d_Mo_init_154 : decode c_Mo_init 154 = .ok (.bipush 40, 2) := by decide +kernel
theorem d_Mo_init_156 : decode c_Mo_init 156 = .ok (.newarray .int, 2) := by decide +kernel
theorem d_Mo_init_158 : decode c_Mo_init 158 = .ok (.putfield 69, 3) := by decide +kernel
theorem d_Mo_init_161 : decode c_Mo_init 161 = .ok (.aload_n 0, 1) := by decide +kernel
theorem d_Mo_init_162 : decode c_Mo_init 162 = .ok (.sipush 2600, 3) := by decide +kernel
theorem d_Mo_init_165 : decode c_Mo_init 165 = .ok (.newarray .int, 2) := by decide +kernel
theorem d_Mo_init_167 : decode c_Mo_init 167 = .ok (.putfield 72, 3) := by decide +kernel
theorem d_Mo_init_170 : decode c_Mo_init 170 = .ok (.aload_n 0, 1) := by decide +kernel
theorem d_Mo_init_171 : decode c_Mo_init 171 = .ok (.sipush 2600, 3) := by decide +kernel
theorem d_Mo_init_174 : decode c_Mo_init 174 = .ok (.newarray .int, 2) := by decide +kernel
theorem d_Mo_init_176 : decode c_Mo_init 176 = .ok (.putfield 75, 3) := by decide +kernel
theorem d_Mo_init_179 : decode c_Mo_init 179 = .ok (.aload_n 0, 1) := by decide +kernel
theorem d_Mo_init_180 : decode c_Mo_init 180 = .ok (.bipush 40, 2) := by decide +kernel
theorem d_Mo_init_182 : decode c_Mo_init 182 = .ok (.newarray .int, 2) := by decide +kernel
theorem d_Mo_init_184 : decode c_Mo_init 184 = .ok (.putfield 78, 3) := by decide +kernel
theorem d_Mo_init_187 : decode c_Mo_init 187 = .ok (.aload_n 0, 1) := by decide +kernel
theorem d_Mo_init_188 : decode c_Mo_init 188 = .ok (.bipush 40, 2) := by decide +kernel
theorem d_Mo_init_190 : decode c_Mo_init 190 = .ok (.newarray .int, 2) := by decide +kernel
theorem d_Mo_init_192 : decode c_Mo_init 192 = .ok (.putfield 81, 3) := by decide +kernel
theorem d_Mo_init_195 : decode c_Mo_init 195 = .ok (.aload_n 0, 1) := by decide +kernel
theorem d_Mo_init_196 : decode c_Mo_init 196 = .ok (.bipush 40, 2) := by decide +kernel
theorem d_Mo_init_198 : decode c_Mo_init 198 = .ok (.newarray .int, 2) := by decide +kernel
theorem d_Mo_init_200 : decode c_Mo_init 200 = .ok (.putfield 84, 3) := by decide +kernel
theorem d_Mo_init_203 : decode c_Mo_init 203 = .ok (.aload_n 0, 1) := by decide +kernel
theorem d_Mo_init_204 : decode c_Mo_init 204 = .ok (.bipush 40, 2) := by decide +kernel
theorem d_Mo_init_206 : decode c_Mo_init 206 = .ok (.newarray .boolean, 2) := by decide +kernel
theorem d_Mo_init_208 : decode c_Mo_init 208 = .ok (.putfield 87, 3) := by decide +kernel
theorem d_Mo_init_211 : decode c_Mo_init 211 = .ok (.aload_n 0, 1) := by decide +kernel
theorem d_Mo_init_212 : decode c_Mo_init 212 = .ok (.sipush 130, 3) := by decide +kernel
theorem d_Mo_init_215 : decode c_Mo_init 215 = .ok (.newarray .int, 2) := by decide +kernel
theorem d_Mo_init_217 : decode c_Mo_init 217 = .ok (.putfield 90, 3) := by decide +kernel
theorem d_Mo_init_220 : decode c_Mo_init 220 = .ok (.aload_n 0, 1) := by decide +kernel
theorem d_Mo_init_221 : decode c_Mo_init 221 = .ok (.sipush 130, 3) := by decide +kernel
theorem d_Mo_init_224 : decode c_Mo_init 224 = .ok (.newarray .int, 2) := by decide +kernel
theorem d_Mo_init_226 : decode c_Mo_init 226 = .ok (.putfield 93, 3) := by decide +kernel
theorem d_Mo_init_229 : decode c_Mo_init 229 = .ok (.aload_n 0, 1) := by decide +kernel
theorem d_Mo_init_230 : decode c_Mo_init 230 = .ok (.sipush 6000, 3) := by decide +kernel
theorem d_Mo_init_233 : decode c_Mo_init 233 = .ok (.newarray .int, 2) := by decide +kernel
theorem d_Mo_init_235 : decode c_Mo_init 235 = .ok (.putfield 96, 3) := by decide +kernel
theorem d_Mo_init_238 : decode c_Mo_init 238 = .ok (.return_, 1) := by decide +kernel
theorem d_Mo_in_0 : decode c_Mo_in 0 = .ok (.iload_n 0, 1) := by decide +kernel
theorem d_Mo_in_1 : decode c_Mo_in 1 = .ok (.iload_n 1, 1) := by decide +kernel
theorem d_Mo_in_2 : decode c_Mo_in 2 = .ok (.if_icmp .lt 12, 3) := by decide +kernel
theorem d_Mo_in_5 : decode c_Mo_in 5 = .ok (.iload_n 0, 1) := by decide +kernel
theorem d_Mo_in_6 : decode c_Mo_in 6 = .ok (.iload_n 2, 1) := by decide +kernel
theorem d_Mo_in_7 : decode c_Mo_in 7 = .ok (.if_icmp .gt 7, 3) := by decide +kernel
theorem d_Mo_in_10 : decode c_Mo_in 10 = .ok (.iconst 1, 1) := by decide +kernel
theorem d_Mo_in_11 : decode c_Mo_in 11 = .ok (.goto 4, 3) := by decide +kernel
theorem d_Mo_in_14 : decode c_Mo_in 14 = .ok (.iconst 0, 1) := by decide +kernel
theorem d_Mo_in_15 : decode c_Mo_in 15 = .ok (.ireturn, 1) := by decide +kernel
theorem d_Mo_type_0 : decode c_Mo_type 0 = .ok (.aload_n 0, 1) := by decide +kernel
theorem d_Mo_type_1 : decode c_Mo_type 1 = .ok (.getfield 99, 3) := by decide +kernel
theorem d_Mo_type_4 : decode c_Mo_type 4 = .ok (.iconst 5, 1) := by decide +kernel
theorem d_Mo_type_5 : decode c_Mo_type 5 = .ok (.if_icmp .eq 10, 3) := by decide +kernel
theorem d_Mo_type_8 : decode c_Mo_type 8 = .ok (.aload_n 0, 1) := by decide +kernel
theorem d_Mo_type_9 : decode c_Mo_type 9 = .ok (.getfield 102, 3) := by decide +kernel
theorem d_Mo_type_12 : decode c_Mo_type 12 = .ok (.ifCond .le 6, 3) := by decide +kernel
theorem d_Mo_type_15 : decode c_Mo_type 15 = .ok (.bipush (-2), 2) := by decide +kernel
theorem d_Mo_type_17 : decode c_Mo_type 17 = .ok (.ireturn, 1) := by decide +kernel
theorem d_Mo_type_18 : decode c_Mo_type 18 = .ok (.aload_n 0, 1) := by decide +kernel
theorem d_Mo_type_19 : decode c_Mo_type 19 = .ok (.dup, 1) := by decide +kernel
theorem d_Mo_type_20 : decode c_Mo_type 20 = .ok (.getfield 99, 3) := by decide +kernel
theorem d_Mo_type_23 : decode c_Mo_type 23 = .ok (.iconst 1, 1) := by decide +kernel
theorem d_Mo_type_24 : decode c_Mo_type 24 = .ok (.iadd, 1) := by decide +kernel
theorem d_Mo_type_25 : decode c_Mo_type 25 = .ok (.putfield 99, 3) := by decide +kernel
theorem d_Mo_type_28 : decode c_Mo_type 28 = .ok (.aload_n 0, 1) := by decide +kernel
theorem d_Mo_type_29 : decode c_Mo_type 29 = .ok (.getfield 99, 3) := by decide +kernel
theorem d_Mo_type_32 : decode c_Mo_type 32 = .ok (.iconst 1, 1) := by decide +kernel
theorem d_Mo_type_33 : decode c_Mo_type 33 = .ok (.isub, 1) := by decide +kernel
theorem d_Mo_type_34 : decode c_Mo_type 34 = .ok (.ireturn, 1) := by decide +kernel
theorem d_Mo_field_0 : decode c_Mo_field 0 = .ok (.iload_n 1, 1) := by decide +kernel
theorem d_Mo_field_1 : decode c_Mo_field 1 = .ok (.iconst 0, 1) := by decide +kernel
theorem d_Mo_field_2 : decode c_Mo_field 2 = .ok (.aload_n 0, 1) := by decide +kernel
theorem d_Mo_field_3 : decode c_Mo_field 3 = .ok (.getfield 99, 3) := by decide +kernel
theorem d_Mo_field_6 : decode c_Mo_field 6 = .ok (.iconst 1, 1) := by decide +kernel
theorem d_Mo_field_7 : decode c_Mo_field 7 = .ok (.isub, 1) := by decide +kernel
theorem d_Mo_field_8 : decode c_Mo_field 8 = .ok (.invokestatic 105, 3) := by decide +kernel
theorem d_Mo_field_11 : decode c_Mo_field 11 = .ok (.ifCond .eq 21, 3) := by decide +kernel
theorem d_Mo_field_14 : decode c_Mo_field 14 = .ok (.iload_n 2, 1) := by decide +kernel
theorem d_Mo_field_15 : decode c_Mo_field 15 = .ok (.iconst 0, 1) := by decide +kernel
theorem d_Mo_field_16 : decode c_Mo_field 16 = .ok (.iconst 2, 1) := by decide +kernel
theorem d_Mo_field_17 : decode c_Mo_field 17 = .ok (.invokestatic 105, 3) := by decide +kernel
theorem d_Mo_field_20 : decode c_Mo_field 20 = .ok (.ifCond .eq 12, 3) := by decide +kernel
theorem d_Mo_field_23 : decode c_Mo_field 23 = .ok (.iload_n 3, 1) := by decide +kernel
theorem d_Mo_field_24 : decode c_Mo_field 24 = .ok (.iconst 0, 1) := by decide +kernel
theorem d_Mo_field_25 : decode c_Mo_field 25 = .ok (.iconst 5, 1) := by decide +kernel
theorem d_Mo_field_26 : decode c_Mo_field 26 = .ok (.invokestatic 105, 3) := by decide +kernel
theorem d_Mo_field_29 : decode c_Mo_field 29 = .ok (.ifCond .ne 5, 3) := by decide +kernel
theorem d_Mo_field_32 : decode c_Mo_field 32 = .ok (.iconst (-1), 1) := by decide +kernel
theorem d_Mo_field_33 : decode c_Mo_field 33 = .ok (.ireturn, 1) := by decide +kernel
theorem d_Mo_field_34 : decode c_Mo_field 34 = .ok (.iload_n 2, 1) := by decide +kernel
theorem d_Mo_field_35 : decode c_Mo_field 35 = .ok (.ifCond .le 18, 3) := by decide +kernel
theorem d_Mo_field_38 : decode c_Mo_field 38 = .ok (.iload_n 3, 1) := by decide +kernel
theorem d_Mo_field_39 : decode c_Mo_field 39 = .ok (.iconst 5, 1) := by decide +kernel
theorem d_Mo_field_40 : decode c_Mo_field 40 = .ok (.if_icmp .ge 13, 3) := by decide +kernel
theorem d_Mo_field_43 : decode c_Mo_field 43 = .ok (.iload_n 3, 1) := by decide +kernel
theorem d_Mo_field_44 : decode c_Mo_field 44 = .ok (.aload_n 0, 1) := by decide +kernel
theorem d_Mo_field_45 : decode c_Mo_field 45 = .ok (.getfield 99, 3) := by decide +kernel
theorem d_Mo_field_48 : decode c_Mo_field 48 = .ok (.if_icmp .lt 5, 3) := by decide +kernel
theorem d_Mo_field_51 : decode c_Mo_field 51 = .ok (.iconst (-1), 1) := by decide +kernel
theorem d_Mo_field_52 : decode c_Mo_field 52 = .ok (.ireturn, 1) := by decide +kernel
theorem d_Mo_field_53 : decode c_Mo_field 53 = .ok (.aload_n 0, 1) := by decide +kernel
theorem d_Mo_field_54 : decode c_Mo_field 54 = .ok (.getfield 102, 3) := by decide +kernel
theorem d_Mo_field_57 : decode c_Mo_field 57 = .ok (.ifCond .gt 13, 3) := by decide +kernel
theorem d_Mo_field_60 : decode c_Mo_field 60 = .ok (.aload_n 0, 1) := by decide +kernel
theorem d_Mo_field_61 : decode c_Mo_field 61 = .ok (.getfield 7, 3) := by decide +kernel
theorem d_Mo_field_64 : decode c_Mo_field 64 = .ok (.iload_n 1, 1) := by decide +kernel
theorem d_Mo_field_65 : decode c_Mo_field 65 = .ok (.iaload, 1) := by decide +kernel
theorem d_Mo_field_66 : decode c_Mo_field 66 = .ok (.iconst 4, 1) := by decide +kernel
theorem d_Mo_field_67 : decode c_Mo_field 67 = .ok (.if_icmp .ne 6, 3) := by decide +kernel
theorem d_Mo_field_70 : decode c_Mo_field 70 = .ok (.bipush (-2), 2) := by decide +kernel
theorem d_Mo_field_72 : decode c_Mo_field 72 = .ok (.ireturn, 1) := by decide +kernel
theorem d_Mo_field_73 : decode c_Mo_field 73 = .ok (.bipush 12, 2) := by decide +kernel
theorem d_Mo_field_75 : decode c_Mo_field 75 = .ok (.iload_n 1, 1) := by decide +kernel
theorem d_Mo_field_76 : decode c_Mo_field 76 = .ok (.imul, 1) := by decide +kernel
theorem d_Mo_field_77 : decode c_Mo_field 77 = .ok (.iconst 3, 1) := by decide +kernel
theorem d_Mo_field_78 : decode c_Mo_field 78 = .ok (.aload_n 0, 1) := by decide +kernel
theorem d_Mo_field_79 : decode c_Mo_field 79 = .ok (.getfield 7, 3) := by decide +kernel
theorem d_Mo_field_82 : decode c_Mo_field 82 = .ok (.iload_n 1, 1) := by decide +kernel
theorem d_Mo_field_83 : decode c_Mo_field 83 = .ok (.iaload, 1) := by decide +kernel
theorem d_Mo_field_84 : decode c_Mo_field 84 = .ok (.imul, 1) := by decide +kernel
theorem d_Mo_field_85 : decode c_Mo_field 85 = .ok (.iadd, 1) := by decide +kernel
theorem d_Mo_field_86 : decode c_Mo_field 86 = .ok (.istore 5, 2) := by decide +kernel
end
section
theorem d_Mo_field_88 : decode c_Mo_field 88 = .ok (.aload_n 0, 1) := by decide +kernel
theorem d_Mo_field_89 : decode c_Mo_field 89 = .ok (.getfield 13, 3) := by decide +kernel
theorem d_Mo_field_92 : decode c_Mo_field 92 = .ok (.iload 5, 2) := by decide +kernel
theorem d_Mo_field_94 : decode c_Mo_field 94 = .ok (.iload_n 2, 1) := by decide +kernel
theorem d_Mo_field_95 : decode c_Mo_field 95 = .ok (.iastore, 1) := by decide +kernel
theorem d_Mo_field_96 : decode c_Mo_field 96 = .ok (.aload_n 0, 1) := by decide +kernel
theorem d_Mo_field_97 : decode c_Mo_field 97 = .ok (.getfield 13, 3) := by decide +kernel
theorem d_Mo_field_100 : decode c_Mo_field 100 = .ok (.iload 5, 2) := by decide +kernel
theorem d_Mo_field_102 : decode c_Mo_field 102 = .ok (.iconst 1, 1) := by decide +kernel
theorem d_Mo_field_103 : decode c_Mo_field 103 = .ok (.iadd, 1) := by decide +kernel
theorem d_Mo_field_104 : decode c_Mo_field 104 = .ok (.iload_n 3, 1) := by decide +kernel
theorem d_Mo_field_105 : decode c_Mo_field 105 = .ok (.iastore, 1) := by decide +kernel
theorem d_Mo_field_106 : decode c_Mo_field 106 = .ok (.aload_n 0, 1) := by decide +kernel
theorem d_Mo_field_107 : decode c_Mo_field 107 = .ok (.getfield 13, 3) := by decide +kernel
theorem d_Mo_field_110 : decode c_Mo_field 110 = .ok (.iload 5, 2) := by decide +kernel
theorem d_Mo_field_112 : decode c_Mo_field 112 = .ok (.iconst 2, 1) := by decide +kernel
theorem d_Mo_field_113 : decode c_Mo_field 113 = .ok (.iadd, 1) := by decide +kernel
theorem d_Mo_field_114 : decode c_Mo_field 114 = .ok (.iload 4, 2) := by decide +kernel
theorem d_Mo_field_116 : decode c_Mo_field 116 = .ok (.ifCond .eq 7, 3) := by decide +kernel
theorem d_Mo_field_119 : decode c_Mo_field 119 = .ok (.iconst 1, 1) := by decide +kernel
theorem d_Mo_field_120 : decode c_Mo_field 120 = .ok (.goto 4, 3) := by decide +kernel
theorem d_Mo_field_123 : decode c_Mo_field 123 = .ok (.iconst 0, 1) := by decide +kernel
theorem d_Mo_field_124 : decode c_Mo_field 124 = .ok (.iastore, 1) := by decide +kernel
theorem d_Mo_field_125 : decode c_Mo_field 125 = .ok (.aload_n 0, 1) := by decide +kernel
theorem d_Mo_field_126 : decode c_Mo_field 126 = .ok (.getfield 7, 3) := by decide +kernel
theorem d_Mo_field_129 : decode c_Mo_field 129 = .ok (.iload_n 1, 1) := by decide +kernel
theorem d_Mo_field_130 : decode c_Mo_field 130 = .ok (.dup2, 1) := by decide +kernel
theorem d_Mo_field_131 : decode c_Mo_field 131 = .ok (.iaload, 1) := by decide +kernel
theorem d_Mo_field_132 : decode c_Mo_field 132 = .ok (.iconst 1, 1) := by decide +kernel
theorem d_Mo_field_133 : decode c_Mo_field 133 = .ok (.iadd, 1) := by decide +kernel
theorem d_Mo_field_134 : decode c_Mo_field 134 = .ok (.iastore, 1) := by decide +kernel
theorem d_Mo_field_135 : decode c_Mo_field 135 = .ok (.aload_n 0, 1) := by decide +kernel
theorem d_Mo_field_136 : decode c_Mo_field 136 = .ok (.getfield 7, 3) := by decide +kernel
theorem d_Mo_field_139 : decode c_Mo_field 139 = .ok (.iload_n 1, 1) := by decide +kernel
theorem d_Mo_field_140 : decode c_Mo_field 140 = .ok (.iaload, 1) := by decide +kernel
theorem d_Mo_field_141 : decode c_Mo_field 141 = .ok (.iconst 1, 1) := by decide +kernel
theorem d_Mo_field_142 : decode c_Mo_field 142 = .ok (.isub, 1) := by decide +kernel
theorem d_Mo_field_143 : decode c_Mo_field 143 = .ok (.ireturn, 1) := by decide +kernel
theorem d_Mo_row_0 : decode c_Mo_row 0 = .ok (.iload_n 1, 1) := by decide +kernel
theorem d_Mo_row_1 : decode c_Mo_row 1 = .ok (.iconst 0, 1) := by decide +kernel
theorem d_Mo_row_2 : decode c_Mo_row 2 = .ok (.aload_n 0, 1) := by decide +kernel
theorem d_Mo_row_3 : decode c_Mo_row 3 = .ok (.getfield 99, 3) := by decide +kernel
theorem d_Mo_row_6 : decode c_Mo_row 6 = .ok (.iconst 1, 1) := by decide +kernel
theorem d_Mo_row_7 : decode c_Mo_row 7 = .ok (.isub, 1) := by decide +kernel
theorem d_Mo_row_8 : decode c_Mo_row 8 = .ok (.invokestatic 105, 3) := by decide +kernel
theorem d_Mo_row_11 : decode c_Mo_row 11 = .ok (.ifCond .ne 5, 3) := by decide +kernel
theorem d_Mo_row_14 : decode c_Mo_row 14 = .ok (.iconst (-1), 1) := by decide +kernel
theorem d_Mo_row_15 : decode c_Mo_row 15 = .ok (.ireturn, 1) := by decide +kernel
theorem d_Mo_row_16 : decode c_Mo_row 16 = .ok (.aload_n 0, 1) := by decide +kernel
theorem d_Mo_row_17 : decode c_Mo_row 17 = .ok (.getfield 102, 3) := by decide +kernel
theorem d_Mo_row_20 : decode c_Mo_row 20 = .ok (.bipush 12, 2) := by decide +kernel
theorem d_Mo_row_22 : decode c_Mo_row 22 = .ok (.if_icmp .ne 6, 3) := by decide +kernel
theorem d_Mo_row_25 : decode c_Mo_row 25 = .ok (.bipush (-2), 2) := by decide +kernel
theorem d_Mo_row_27 : decode c_Mo_row 27 = .ok (.ireturn, 1) := by decide +kernel
theorem d_Mo_row_28 : decode c_Mo_row 28 = .ok (.aload_n 0, 1) := by decide +kernel
theorem d_Mo_row_29 : decode c_Mo_row 29 = .ok (.dup, 1) := by decide +kernel
theorem d_Mo_row_30 : decode c_Mo_row 30 = .ok (.getfield 102, 3) := by decide +kernel
theorem d_Mo_row_33 : decode c_Mo_row 33 = .ok (.iconst 1, 1) := by decide +kernel
theorem d_Mo_row_34 : decode c_Mo_row 34 = .ok (.iadd, 1) := by decide +kernel
theorem d_Mo_row_35 : decode c_Mo_row 35 = .ok (.putfield 102, 3) := by decide +kernel
theorem d_Mo_row_38 : decode c_Mo_row 38 = .ok (.aload_n 0, 1) := by decide +kernel
theorem d_Mo_row_39 : decode c_Mo_row 39 = .ok (.getfield 16, 3) := by decide +kernel
theorem d_Mo_row_42 : decode c_Mo_row 42 = .ok (.aload_n 0, 1) := by decide +kernel
theorem d_Mo_row_43 : decode c_Mo_row 43 = .ok (.getfield 102, 3) := by decide +kernel
theorem d_Mo_row_46 : decode c_Mo_row 46 = .ok (.iload_n 1, 1) := by decide +kernel
theorem d_Mo_row_47 : decode c_Mo_row 47 = .ok (.iastore, 1) := by decide +kernel
theorem d_Mo_row_48 : decode c_Mo_row 48 = .ok (.aload_n 0, 1) := by decide +kernel
theorem d_Mo_row_49 : decode c_Mo_row 49 = .ok (.getfield 102, 3) := by decide +kernel
theorem d_Mo_row_52 : decode c_Mo_row 52 = .ok (.ireturn, 1) := by decide +kernel
theorem d_Mo_of_0 : decode c_Mo_of 0 = .ok (.aload_n 0, 1) := by decide +kernel
theorem d_Mo_of_1 : decode c_Mo_of 1 = .ok (.getfield 13, 3) := by decide +kernel
theorem d_Mo_of_4 : decode c_Mo_of 4 = .ok (.bipush 12, 2) := by decide +kernel
theorem d_Mo_of_6 : decode c_Mo_of 6 = .ok (.aload_n 0, 1) := by decide +kernel
theorem d_Mo_of_7 : decode c_Mo_of 7 = .ok (.getfield 16, 3) := by decide +kernel
theorem d_Mo_of_10 : decode c_Mo_of 10 = .ok (.iload_n 1, 1) := by decide +kernel
theorem d_Mo_of_11 : decode c_Mo_of 11 = .ok (.iaload, 1) := by decide +kernel
theorem d_Mo_of_12 : decode c_Mo_of 12 = .ok (.imul, 1) := by decide +kernel
theorem d_Mo_of_13 : decode c_Mo_of 13 = .ok (.iconst 3, 1) := by decide +kernel
theorem d_Mo_of_14 : decode c_Mo_of 14 = .ok (.iload_n 2, 1) := by decide +kernel
theorem d_Mo_of_15 : decode c_Mo_of 15 = .ok (.imul, 1) := by decide +kernel
theorem d_Mo_of_16 : decode c_Mo_of 16 = .ok (.iadd, 1) := by decide +kernel
theorem d_Mo_of_17 : decode c_Mo_of 17 = .ok (.iload_n 3, 1) := by decide +kernel
theorem d_Mo_of_18 : decode c_Mo_of 18 = .ok (.iadd, 1) := by decide +kernel
theorem d_Mo_of_19 : decode c_Mo_of 19 = .ok (.iaload, 1) := by decide +kernel
theorem d_Mo_of_20 : decode c_Mo_of 20 = .ok (.ireturn, 1) := by decide +kernel
theorem d_Mo_badField_0 : decode c_Mo_badField 0 = .ok (.iload_n 1, 1) := by decide +kernel
theorem d_Mo_badField_1 : decode c_Mo_badField 1 = .ok (.iconst 1, 1) := by decide +kernel
theorem d_Mo_badField_2 : decode c_Mo_badField 2 = .ok (.aload_n 0, 1) := by decide +kernel
theorem d_Mo_badField_3 : decode c_Mo_badField 3 = .ok (.getfield 102, 3) := by decide +kernel
theorem d_Mo_badField_6 : decode c_Mo_badField 6 = .ok (.invokestatic 105, 3) := by decide +kernel
theorem d_Mo_badField_9 : decode c_Mo_badField 9 = .ok (.ifCond .eq 24, 3) := by decide +kernel
theorem d_Mo_badField_12 : decode c_Mo_badField 12 = .ok (.iload_n 2, 1) := by decide +kernel
theorem d_Mo_badField_13 : decode c_Mo_badField 13 = .ok (.iconst 0, 1) := by decide +kernel
theorem d_Mo_badField_14 : decode c_Mo_badField 14 = .ok (.aload_n 0, 1) := by decide +kernel
theorem d_Mo_badField_15 : decode c_Mo_badField 15 = .ok (.getfield 7, 3) := by decide +kernel
theorem d_Mo_badField_18 : decode c_Mo_badField 18 = .ok (.aload_n 0, 1) := by decide +kernel
theorem d_Mo_badField_19 : decode c_Mo_badField 19 = .ok (.getfield 16, 3) := by decide +kernel
theorem d_Mo_badField_22 : decode c_Mo_badField 22 = .ok (.iload_n 1, 1) := by decide +kernel
theorem d_Mo_badField_23 : decode c_Mo_badField 23 = .ok (.iaload, 1) := by decide +kernel
theorem d_Mo_badField_24 : decode c_Mo_badField 24 = .ok (.iaload, 1) := by decide +kernel
theorem d_Mo_badField_25 : decode c_Mo_badField 25 = .ok (.iconst 1, 1) := by decide +kernel
theorem d_Mo_badField_26 : decode c_Mo_badField 26 = .ok (.isub, 1) := by decide +kernel
theorem d_Mo_badField_27 : decode c_Mo_badField 27 = .ok (.invokestatic 105, 3) := by decide +kernel
theorem d_Mo_badField_30 : decode c_Mo_badField 30 = .ok (.ifCond .ne 7, 3) := by decide +kernel
theorem d_Mo_badField_33 : decode c_Mo_badField 33 = .ok (.iconst 1, 1) := by decide +kernel
theorem d_Mo_badField_34 : decode c_Mo_badField 34 = .ok (.goto 4, 3) := by decide +kernel
theorem d_Mo_badField_37 : decode c_Mo_badField 37 = .ok (.iconst 0, 1) := by decide +kernel
theorem d_Mo_badField_38 : decode c_Mo_badField 38 = .ok (.ireturn, 1) := by decide +kernel
theorem d_Mo_put_0 : decode c_Mo_put 0 = .ok (.aload_n 0, 1) := by decide +kernel
theorem d_Mo_put_1 : decode c_Mo_put 1 = .ok (.iload_n 1, 1) := by decide +kernel
theorem d_Mo_put_2 : decode c_Mo_put 2 = .ok (.iload_n 2, 1) := by decide +kernel
theorem d_Mo_put_3 : decode c_Mo_put 3 = .ok (.invokevirtual 109, 3) := by decide +kernel
theorem d_Mo_put_6 : decode c_Mo_put 6 = .ok (.ifCond .ne 24, 3) := by decide +kernel
theorem d_Mo_put_9 : decode c_Mo_put 9 = .ok (.iload_n 3, 1) := by decide +kernel
theorem d_Mo_put_10 : decode c_Mo_put 10 = .ok (.iconst 0, 1) := by decide +kernel
theorem d_Mo_put_11 : decode c_Mo_put 11 = .ok (.sipush 999, 3) := by decide +kernel
theorem d_Mo_put_14 : decode c_Mo_put 14 = .ok (.invokestatic 105, 3) := by decide +kernel
theorem d_Mo_put_17 : decode c_Mo_put 17 = .ok (.ifCond .eq 13, 3) := by decide +kernel
theorem d_Mo_put_20 : decode c_Mo_put 20 = .ok (.aload_n 0, 1) := by decide +kernel
theorem d_Mo_put_21 : decode c_Mo_put 21 = .ok (.iload_n 1, 1) := by decide +kernel
theorem d_Mo_put_22 : decode c_Mo_put 22 = .ok (.iload_n 2, 1) := by decide +kernel
theorem d_Mo_put_23 : decode c_Mo_put 23 = .ok (.iconst 0, 1) := by decide +kernel
theorem d_Mo_put_24 : decode c_Mo_put 24 = .ok (.invokevirtual 113, 3) := by decide +kernel
theorem d_Mo_put_27 : decode c_Mo_put 27 = .ok (.ifCond .eq 5, 3) := by decide +kernel
theorem d_Mo_put_30 : decode c_Mo_put 30 = .ok (.iconst (-1), 1) := by decide +kernel
theorem d_Mo_put_31 : decode c_Mo_put 31 = .ok (.ireturn, 1) := by decide +kernel
theorem d_Mo_put_32 : decode c_Mo_put 32 = .ok (.aload_n 0, 1) := by decide +kernel
theorem d_Mo_put_33 : decode c_Mo_put 33 = .ok (.getfield 19, 3) := by decide +kernel
theorem d_Mo_put_36 : decode c_Mo_put 36 = .ok (.iconst 4, 1) := by decide +kernel
theorem d_Mo_put_37 : decode c_Mo_put 37 = .ok (.iload_n 1, 1) := by decide +kernel
theorem d_Mo_put_38 : decode c_Mo_put 38 = .ok (.imul, 1) := by decide +kernel
theorem d_Mo_put_39 : decode c_Mo_put 39 = .ok (.iload_n 2, 1) := by decide +kernel
theorem d_Mo_put_40 : decode c_Mo_put 40 = .ok (.iadd, 1) := by decide +kernel
theorem d_Mo_put_41 : decode c_Mo_put 41 = .ok (.iconst 1, 1) := by decide +kernel
theorem d_Mo_put_42 : decode c_Mo_put 42 = .ok (.iastore, 1) := by decide +kernel
theorem d_Mo_put_43 : decode c_Mo_put 43 = .ok (.aload_n 0, 1) := by decide +kernel
theorem d_Mo_put_44 : decode c_Mo_put 44 = .ok (.getfield 22, 3) := by decide +kernel
theorem d_Mo_put_47 : decode c_Mo_put 47 = .ok (.bipush 16, 2) := by decide +kernel
theorem d_Mo_put_49 : decode c_Mo_put 49 = .ok (.iload_n 1, 1) := by decide +kernel
theorem d_Mo_put_50 : decode c_Mo_put 50 = .ok (.imul, 1) := by decide +kernel
theorem d_Mo_put_51 : decode c_Mo_put 51 = .ok (.iconst 4, 1) := by decide +kernel
theorem d_Mo_put_52 : decode c_Mo_put 52 = .ok (.iload_n 2, 1) := by decide +kernel
theorem d_Mo_put_53 : decode c_Mo_put 53 = .ok (.imul, 1) := by decide +kernel
theorem d_Mo_put_54 : decode c_Mo_put 54 = .ok (.iadd, 1) := by decide +kernel
theorem d_Mo_put_55 : decode c_Mo_put 55 = .ok (.iload_n 3, 1) := by decide +kernel
theorem d_Mo_put_56 : decode c_Mo_put 56 = .ok (.iastore, 1) := by decide +kernel
theorem d_Mo_put_57 : decode c_Mo_put 57 = .ok (.iconst 0, 1) := by decide +kernel
theorem d_Mo_put_58 : decode c_Mo_put 58 = .ok (.ireturn, 1) := by decide +kernel
theorem d_Mo_link_0 : decode c_Mo_link 0 = .ok (.aload_n 0, 1) := by decide +kernel
theorem d_Mo_link_1 : decode c_Mo_link 1 = .ok (.iload_n 1, 1) := by decide +kernel
theorem d_Mo_link_2 : decode c_Mo_link 2 = .ok (.iload_n 2, 1) := by decide +kernel
theorem d_Mo_link_3 : decode c_Mo_link 3 = .ok (.invokevirtual 109, 3) := by decide +kernel
theorem d_Mo_link_6 : decode c_Mo_link 6 = .ok (.ifCond .ne 25, 3) := by decide +kernel
theorem d_Mo_link_9 : decode c_Mo_link 9 = .ok (.iload_n 3, 1) := by decide +kernel
theorem d_Mo_link_10 : decode c_Mo_link 10 = .ok (.iconst 1, 1) := by decide +kernel
theorem d_Mo_link_11 : decode c_Mo_link 11 = .ok (.aload_n 0, 1) := by decide +kernel
theorem d_Mo_link_12 : decode c_Mo_link 12 = .ok (.getfield 102, 3) := by decide +kernel
theorem d_Mo_link_15 : decode c_Mo_link 15 = .ok (.invokestatic 105, 3) := by decide +kernel
theorem d_Mo_link_18 : decode c_Mo_link 18 = .ok (.ifCond .eq 13, 3) := by decide +kernel
theorem d_Mo_link_21 : decode c_Mo_link 21 = .ok (.aload_n 0, 1) := by decide +kernel
theorem d_Mo_link_22 : decode c_Mo_link 22 = .ok (.iload_n 1, 1) := by decide +kernel
theorem d_Mo_link_23 : decode c_Mo_link 23 = .ok (.iload_n 2, 1) := by decide +kernel
theorem d_Mo_link_24 : decode c_Mo_link 24 = .ok (.iconst 0, 1) := by decide +kernel
theorem d_Mo_link_25 : decode c_Mo_link 25 = .ok (.invokevirtual 113, 3) := by decide +kernel
theorem d_Mo_link_28 : decode c_Mo_link 28 = .ok (.ifCond .ne 5, 3) := by decide +kernel
theorem d_Mo_link_31 : decode c_Mo_link 31 = .ok (.iconst (-1), 1) := by decide +kernel
theorem d_Mo_link_32 : decode c_Mo_link 32 = .ok (.ireturn, 1) := by decide +kernel
theorem d_Mo_link_33 : decode c_Mo_link 33 = .ok (.aload_n 0, 1) := by decide +kernel
theorem d_Mo_link_34 : decode c_Mo_link 34 = .ok (.iload_n 1, 1) := by decide +kernel
theorem d_Mo_link_35 : decode c_Mo_link 35 = .ok (.iload_n 2, 1) := by decide +kernel
theorem d_Mo_link_36 : decode c_Mo_link 36 = .ok (.iconst 1, 1) := by decide +kernel
theorem d_Mo_link_37 : decode c_Mo_link 37 = .ok (.invokevirtual 113, 3) := by decide +kernel
theorem d_Mo_link_40 : decode c_Mo_link 40 = .ok (.istore 4, 2) := by decide +kernel
theorem d_Mo_link_42 : decode c_Mo_link 42 = .ok (.iload 4, 2) := by decide +kernel
theorem d_Mo_link_44 : decode c_Mo_link 44 = .ok (.iconst 5, 1) := by decide +kernel
theorem d_Mo_link_45 : decode c_Mo_link 45 = .ok (.if_icmp .eq 16, 3) := by decide +kernel
theorem d_Mo_link_48 : decode c_Mo_link 48 = .ok (.iload 4, 2) := by decide +kernel
theorem d_Mo_link_50 : decode c_Mo_link 50 = .ok (.aload_n 0, 1) := by decide +kernel
theorem d_Mo_link_51 : decode c_Mo_link 51 = .ok (.getfield 16, 3) := by decide +kernel
theorem d_Mo_link_54 : decode c_Mo_link 54 = .ok (.iload_n 3, 1) := by decide +kernel
theorem d_Mo_link_55 : decode c_Mo_link 55 = .ok (.iaload, 1) := by decide +kernel
theorem d_Mo_link_56 : decode c_Mo_link 56 = .ok (.if_icmp .eq 5, 3) := by decide +kernel
theorem d_Mo_link_59 : decode c_Mo_link 59 = .ok (.iconst (-1), 1) := by decide +kernel
theorem d_Mo_link_60 : decode c_Mo_link 60 = .ok (.ireturn, 1) := by decide +kernel
theorem d_Mo_link_61 : decode c_Mo_link 61 = .ok (.iconst 4, 1) := by decide +kernel
theorem d_Mo_link_62 : decode c_Mo_link 62 = .ok (.iload_n 1, 1) := by decide +kernel
theorem d_Mo_link_63 : decode c_Mo_link 63 = .ok (.imul, 1) := by decide +kernel
theorem d_Mo_link_64 : decode c_Mo_link 64 = .ok (.iload_n 2, 1) := by decide +kernel
theorem d_Mo_link_65 : decode c_Mo_link 65 = .ok (.iadd, 1) := by decide +kernel
theorem d_Mo_link_66 : decode c_Mo_link 66 = .ok (.istore 5, 2) := by decide +kernel
theorem d_Mo_link_68 : decode c_Mo_link 68 = .ok (.aload_n 0, 1) := by decide +kernel
theorem d_Mo_link_69 : decode c_Mo_link 69 = .ok (.iload_n 1, 1) := by decide +kernel
theorem d_Mo_link_70 : decode c_Mo_link 70 = .ok (.iload_n 2, 1) := by decide +kernel
theorem d_Mo_link_71 : decode c_Mo_link 71 = .ok (.iconst 0, 1) := by decide +kernel
theorem d_Mo_link_72 : decode c_Mo_link 72 = .ok (.invokevirtual 113, 3) := by decide +kernel
theorem d_Mo_link_75 : decode c_Mo_link 75 = .ok (.iconst 2, 1) := by decide +kernel
theorem d_Mo_link_76 : decode c_Mo_link 76 = .ok (.if_icmp .ne 13, 3) := by decide +kernel
theorem d_Mo_link_79 : decode c_Mo_link 79 = .ok (.aload_n 0, 1) := by decide +kernel
theorem d_Mo_link_80 : decode c_Mo_link 80 = .ok (.getfield 19, 3) := by decide +kernel
theorem d_Mo_link_83 : decode c_Mo_link 83 = .ok (.iload 5, 2) := by decide +kernel
theorem d_Mo_link_85 : decode c_Mo_link 85 = .ok (.iaload, 1) := by decide +kernel
theorem d_Mo_link_86 : decode c_Mo_link 86 = .ok (.goto 4, 3) := by decide +kernel
theorem d_Mo_link_89 : decode c_Mo_link 89 = .ok (.iconst 0, 1) := by decide +kernel
theorem d_Mo_link_90 : decode c_Mo_link 90 = .ok (.istore 6, 2) := by decide +kernel
theorem d_Mo_link_92 : decode c_Mo_link 92 = .ok (.iload 6, 2) := by decide +kernel
theorem d_Mo_link_94 : decode c_Mo_link 94 = .ok (.iconst 4, 1) := by decide +kernel
theorem d_Mo_link_95 : decode c_Mo_link 95 = .ok (.if_icmp .ne 6, 3) := by decide +kernel
theorem d_Mo_link_98 : decode c_Mo_link 98 = .ok (.bipush (-2), 2) := by decide +kernel
theorem d_Mo_link_100 : decode c_Mo_link 100 = .ok (.ireturn, 1) := by decide +kernel
theorem d_Mo_link_101 : decode c_Mo_link 101 = .ok (.aload_n 0, 1) := by decide +kernel
theorem d_Mo_link_102 : decode c_Mo_link 102 = .ok (.getfield 22, 3) := by decide +kernel
theorem d_Mo_link_105 : decode c_Mo_link 105 = .ok (.iconst 4, 1) := by decide +kernel
theorem d_Mo_link_106 : decode c_Mo_link 106 = .ok (.iload 5, 2) := by decide +kernel
theorem d_Mo_link_108 : decode c_Mo_link 108 = .ok (.imul, 1) := by decide +kernel
theorem d_Mo_link_109 : decode c_Mo_link 109 = .ok (.iload 6, 2) := by decide +kernel
theorem d_Mo_link_111 : decode c_Mo_link 111 = .ok (.iadd, 1) := by decide +kernel
theorem d_Mo_link_112 : decode c_Mo_link 112 = .ok (.iload_n 3, 1) := by decide +kernel
theorem d_Mo_link_113 : decode c_Mo_link 113 = .ok (.iastore, 1) := by decide +kernel
theorem d_Mo_link_114 : decode c_Mo_link 114 = .ok (.aload_n 0, 1) := by decide +kernel
theorem d_Mo_link_115 : decode c_Mo_link 115 = .ok (.getfield 19, 3) := by decide +kernel
theorem d_Mo_link_118 : decode c_Mo_link 118 = .ok (.iload 5, 2) := by decide +kernel
theorem d_Mo_link_120 : decode c_Mo_link 120 = .ok (.iload 6, 2) := by decide +kernel
theorem d_Mo_link_122 : decode c_Mo_link 122 = .ok (.iconst 1, 1) := by decide +kernel
theorem d_Mo_link_123 : decode c_Mo_link 123 = .ok (.iadd, 1) := by decide +kernel
theorem d_Mo_link_124 : decode c_Mo_link 124 = .ok (.iastore, 1) := by decide +kernel
theorem d_Mo_link_125 : decode c_Mo_link 125 = .ok (.iload 6, 2) := by decide +kernel
theorem d_Mo_link_127 : decode c_Mo_link 127 = .ok (.iconst 1, 1) := by decide +kernel
theorem d_Mo_link_128 : decode c_Mo_link 128 = .ok (.iadd, 1) := by decide +kernel
theorem d_Mo_link_129 : decode c_Mo_link 129 = .ok (.ireturn, 1) := by decide +kernel
theorem d_Mo_clear_0 : decode c_Mo_clear 0 = .ok (.aload_n 0, 1) := by decide +kernel
theorem d_Mo_clear_1 : decode c_Mo_clear 1 = .ok (.iload_n 1, 1) := by decide +kernel
theorem d_Mo_clear_2 : decode c_Mo_clear 2 = .ok (.iload_n 2, 1) := by decide +kernel
theorem d_Mo_clear_3 : decode c_Mo_clear 3 = .ok (.invokevirtual 109, 3) := by decide +kernel
theorem d_Mo_clear_6 : decode c_Mo_clear 6 = .ok (.ifCond .eq 5, 3) := by decide +kernel
theorem d_Mo_clear_9 : decode c_Mo_clear 9 = .ok (.iconst (-1), 1) := by decide +kernel
theorem d_Mo_clear_10 : decode c_Mo_clear 10 = .ok (.ireturn, 1) := by decide +kernel
theorem d_Mo_clear_11 : decode c_Mo_clear 11 = .ok (.aload_n 0, 1) := by decide +kernel
theorem d_Mo_clear_12 : decode c_Mo_clear 12 = .ok (.getfield 19, 3) := by decide +kernel
theorem d_Mo_clear_15 : decode c_Mo_clear 15 = .ok (.iconst 4, 1) := by decide +kernel
theorem d_Mo_clear_16 : decode c_Mo_clear 16 = .ok (.iload_n 1, 1) := by decide +kernel
theorem d_Mo_clear_17 : decode c_Mo_clear 17 = .ok (.imul, 1) := by decide +kernel
theorem d_Mo_clear_18 : decode c_Mo_clear 18 = .ok (.iload_n 2, 1) := by decide +kernel
theorem d_Mo_clear_19 : decode c_Mo_clear 19 = .ok (.iadd, 1) := by decide +kernel
theorem d_Mo_clear_20 : decode c_Mo_clear 20 = .ok (.iconst 0, 1) := by decide +kernel
theorem d_Mo_clear_21 : decode c_Mo_clear 21 = .ok (.iastore, 1) := by decide +kernel
theorem d_Mo_clear_22 : decode c_Mo_clear 22 = .ok (.iconst 0, 1) := by decide +kernel
theorem d_Mo_clear_23 : decode c_Mo_clear 23 = .ok (.ireturn, 1) := by decide +kernel
theorem d_Mo_set_0 : decode c_Mo_set 0 = .ok (.iload_n 1, 1) := by decide +kernel
theorem d_Mo_set_1 : decode c_Mo_set 1 = .ok (.iconst 0, 1) := by decide +kernel
theorem d_Mo_set_2 : decode c_Mo_set 2 = .ok (.iconst 3, 1) := by decide +kernel
theorem d_Mo_set_3 : decode c_Mo_set 3 = .ok (.invokestatic 105, 3) := by decide +kernel
theorem d_Mo_set_6 : decode c_Mo_set 6 = .ok (.ifCond .eq 12, 3) := by decide +kernel
theorem d_Mo_set_9 : decode c_Mo_set 9 = .ok (.iload_n 2, 1) := by decide +kernel
theorem d_Mo_set_10 : decode c_Mo_set 10 = .ok (.iconst 0, 1) := by decide +kernel
theorem d_Mo_set_11 : decode c_Mo_set 11 = .ok (.iconst 1, 1) := by decide +kernel
theorem d_Mo_set_12 : decode c_Mo_set 12 = .ok (.invokestatic 105, 3) := by decide +kernel
theorem d_Mo_set_15 : decode c_Mo_set 15 = .ok (.ifCond .ne 5, 3) := by decide +kernel
theorem d_Mo_set_18 : decode c_Mo_set 18 = .ok (.iconst (-1), 1) := by decide +kernel
theorem d_Mo_set_19 : decode c_Mo_set 19 = .ok (.ireturn, 1) := by decide +kernel
theorem d_Mo_set_20 : decode c_Mo_set 20 = .ok (.aload_n 0, 1) := by decide +kernel
theorem d_Mo_set_21 : decode c_Mo_set 21 = .ok (.getfield 25, 3) := by decide +kernel
theorem d_Mo_set_24 : decode c_Mo_set 24 = .ok (.iload_n 1, 1) := by decide +kernel
theorem d_Mo_set_25 : decode c_Mo_set 25 = .ok (.iload_n 2, 1) := by decide +kernel
theorem d_Mo_set_26 : decode c_Mo_set 26 = .ok (.iastore, 1) := by decide +kernel
theorem d_Mo_set_27 : decode c_Mo_set 27 = .ok (.iconst 0, 1) := by decide +kernel
theorem d_Mo_set_28 : decode c_Mo_set 28 = .ok (.ireturn, 1) := by decide +kernel
theorem d_Mo_fits_0 : decode c_Mo_fits 0 = .ok (.iload_n 0, 1) := by decide +kernel
theorem d_Mo_fits_1 : decode c_Mo_fits 1 = .ok (.tableswitch 110 0 5 #[39, 39, 64, 72, 79, 103], 39) := by decide +kernel
theorem d_Mo_fits_40 : decode c_Mo_fits 40 = .ok (.iload_n 1, 1) := by decide +kernel
theorem d_Mo_fits_41 : decode c_Mo_fits 41 = .ok (.iconst 0, 1) := by decide +kernel
theorem d_Mo_fits_42 : decode c_Mo_fits 42 = .ok (.bipush 9, 2) := by decide +kernel
theorem d_Mo_fits_44 : decode c_Mo_fits 44 = .ok (.invokestatic 105, 3) := by decide +kernel
theorem d_Mo_fits_47 : decode c_Mo_fits 47 = .ok (.ifCond .eq 16, 3) := by decide +kernel
theorem d_Mo_fits_50 : decode c_Mo_fits 50 = .ok (.iload_n 2, 1) := by decide +kernel
theorem d_Mo_fits_51 : decode c_Mo_fits 51 = .ok (.iconst 0, 1) := by decide +kernel
theorem d_Mo_fits_52 : decode c_Mo_fits 52 = .ok (.iconst 3, 1) := by decide +kernel
theorem d_Mo_fits_53 : decode c_Mo_fits 53 = .ok (.invokestatic 105, 3) := by decide +kernel
theorem d_Mo_fits_56 : decode c_Mo_fits 56 = .ok (.ifCond .eq 7, 3) := by decide +kernel
theorem d_Mo_fits_59 : decode c_Mo_fits 59 = .ok (.iconst 1, 1) := by decide +kernel
theorem d_Mo_fits_60 : decode c_Mo_fits 60 = .ok (.goto 4, 3) := by decide +kernel
theorem d_Mo_fits_63 : decode c_Mo_fits 63 = .ok (.iconst 0, 1) := by decide +kernel
theorem d_Mo_fits_64 : decode c_Mo_fits 64 = .ok (.ireturn, 1) := by decide +kernel
theorem d_Mo_fits_65 : decode c_Mo_fits 65 = .ok (.iload_n 1, 1) := by decide +kernel
theorem d_Mo_fits_66 : decode c_Mo_fits 66 = .ok (.iconst 0, 1) := by decide +kernel
theorem d_Mo_fits_67 : decode c_Mo_fits 67 = .ok (.bipush 9, 2) := by decide +kernel
theorem d_Mo_fits_69 : decode c_Mo_fits 69 = .ok (.invokestatic 105, 3) := by decide +kernel
theorem d_Mo_fits_72 : decode c_Mo_fits 72 = .ok (.ireturn, 1) := by decide +kernel
theorem d_Mo_fits_73 : decode c_Mo_fits 73 = .ok (.iload_n 1, 1) := by decide +kernel
theorem d_Mo_fits_74 : decode c_Mo_fits 74 = .ok (.iconst 0, 1) := by decide +kernel
theorem d_Mo_fits_75 : decode c_Mo_fits 75 = .ok (.iconst 4, 1) := by decide +kernel
theorem d_Mo_fits_76 : decode c_Mo_fits 76 = .ok (.invokestatic 105, 3) := by decide +kernel
theorem d_Mo_fits_79 : decode c_Mo_fits 79 = .ok (.ireturn, 1) := by decide +kernel
theorem d_Mo_fits_80 : decode c_Mo_fits 80 = .ok (.iload_n 1, 1) := by decide +kernel
theorem d_Mo_fits_81 : decode c_Mo_fits 81 = .ok (.iconst 0, 1) := by decide +kernel
theorem d_Mo_fits_82 : decode c_Mo_fits 82 = .ok (.iconst 3, 1) := by decide +kernel
theorem d_Mo_fits_83 : decode c_Mo_fits 83 = .ok (.invokestatic 105, 3) := by decide +kernel
theorem d_Mo_fits_86 : decode c_Mo_fits 86 = .ok (.ifCond .eq 16, 3) := by decide +kernel
theorem d_Mo_fits_89 : decode c_Mo_fits 89 = .ok (.iload_n 2, 1) := by decide +kernel
theorem d_Mo_fits_90 : decode c_Mo_fits 90 = .ok (.iconst 0, 1) := by decide +kernel
theorem d_Mo_fits_91 : decode c_Mo_fits 91 = .ok (.iconst 1, 1) := by decide +kernel
theorem d_Mo_fits_92 : decode c_Mo_fits 92 = .ok (.invokestatic 105, 3) := by decide +kernel
theorem d_Mo_fits_95 : decode c_Mo_fits 95 = .ok (.ifCond .eq 7, 3) := by decide +kernel
theorem d_Mo_fits_98 : decode c_Mo_fits 98 = .ok (.iconst 1, 1) := by decide +kernel
theorem d_Mo_fits_99 : decode c_Mo_fits 99 = .ok (.goto 4, 3) := by decide +kernel
theorem d_Mo_fits_102 : decode c_Mo_fits 102 = .ok (.iconst 0, 1) := by decide +kernel
theorem d_Mo_fits_103 : decode c_Mo_fits 103 = .ok (.ireturn, 1) := by decide +kernel
theorem d_Mo_fits_104 : decode c_Mo_fits 104 = .ok (.iload_n 1, 1) := by decide +kernel
theorem d_Mo_fits_105 : decode c_Mo_fits 105 = .ok (.iconst 1, 1) := by decide +kernel
theorem d_Mo_fits_106 : decode c_Mo_fits 106 = .ok (.iconst 3, 1) := by decide +kernel
theorem d_Mo_fits_107 : decode c_Mo_fits 107 = .ok (.invokestatic 105, 3) := by decide +kernel
theorem d_Mo_fits_110 : decode c_Mo_fits 110 = .ok (.ireturn, 1) := by decide +kernel
theorem d_Mo_fits_111 : decode c_Mo_fits 111 = .ok (.iload_n 0, 1) := by decide +kernel
theorem d_Mo_fits_112 : decode c_Mo_fits 112 = .ok (.bipush 6, 2) := by decide +kernel
theorem d_Mo_fits_114 : decode c_Mo_fits 114 = .ok (.if_icmp .ne 7, 3) := by decide +kernel
theorem d_Mo_fits_117 : decode c_Mo_fits 117 = .ok (.iconst 1, 1) := by decide +kernel
theorem d_Mo_fits_118 : decode c_Mo_fits 118 = .ok (.goto 4, 3) := by decide +kernel
theorem d_Mo_fits_121 : decode c_Mo_fits 121 = .ok (.iconst 0, 1) := by decide +kernel
theorem d_Mo_fits_122 : decode c_Mo_fits 122 = .ok (.ireturn, 1) := by decide +kernel
theorem d_Mo_token_0 : decode c_Mo_token 0 = .ok (.iload_n 1, 1) := by decide +kernel
theorem d_Mo_token_1 : decode c_Mo_token 1 = .ok (.iconst 0, 1) := by decide +kernel
theorem d_Mo_token_2 : decode c_Mo_token 2 = .ok (.iconst 3, 1) := by decide +kernel
theorem d_Mo_token_3 : decode c_Mo_token 3 = .ok (.invokestatic 105, 3) := by decide +kernel
theorem d_Mo_token_6 : decode c_Mo_token 6 = .ok (.ifCond .eq 13, 3) := by decide +kernel
theorem d_Mo_token_9 : decode c_Mo_token 9 = .ok (.iload_n 2, 1) := by decide +kernel
theorem d_Mo_token_10 : decode c_Mo_token 10 = .ok (.iload_n 3, 1) := by decide +kernel
theorem d_Mo_token_11 : decode c_Mo_token 11 = .ok (.iload 4, 2) := by decide +kernel
theorem d_Mo_token_13 : decode c_Mo_token 13 = .ok (.invokestatic 117, 3) := by decide +kernel
theorem d_Mo_token_16 : decode c_Mo_token 16 = .ok (.ifCond .ne 5, 3) := by decide +kernel
theorem d_Mo_token_19 : decode c_Mo_token 19 = .ok (.iconst (-1), 1) := by decide +kernel
theorem d_Mo_token_20 : decode c_Mo_token 20 = .ok (.ireturn, 1) := by decide +kernel
theorem d_Mo_token_21 : decode c_Mo_token 21 = .ok (.aload_n 0, 1) := by decide +kernel
theorem d_Mo_token_22 : decode c_Mo_token 22 = .ok (.getfield 28, 3) := by decide +kernel
theorem d_Mo_token_25 : decode c_Mo_token 25 = .ok (.iload_n 1, 1) := by decide +kernel
theorem d_Mo_token_26 : decode c_Mo_token 26 = .ok (.iaload, 1) := by decide +kernel
theorem d_Mo_token_27 : decode c_Mo_token 27 = .ok (.bipush 16, 2) := by decide +kernel
theorem d_Mo_token_29 : decode c_Mo_token 29 = .ok (.if_icmp .ne 6, 3) := by decide +kernel
theorem d_Mo_token_32 : decode c_Mo_token 32 = .ok (.bipush (-2), 2) := by decide +kernel
theorem d_Mo_token_34 : decode c_Mo_token 34 = .ok (.ireturn, 1) := by decide +kernel
theorem d_Mo_token_35 : decode c_Mo_token 35 = .ok (.bipush 16, 2) := by decide +kernel
theorem d_Mo_token_37 : decode c_Mo_token 37 = .ok (.iload_n 1, 1) := by decide +kernel
theorem d_Mo_token_38 : decode c_Mo_token 38 = .ok (.imul, 1) := by decide +kernel
theorem d_Mo_token_39 : decode c_Mo_token 39 = .ok (.aload_n 0, 1) := by decide +kernel
theorem d_Mo_token_40 : decode c_Mo_token 40 = .ok (.getfield 28, 3) := by decide +kernel
theorem d_Mo_token_43 : decode c_Mo_token 43 = .ok (.iload_n 1, 1) := by decide +kernel
theorem d_Mo_token_44 : decode c_Mo_token 44 = .ok (.iaload, 1) := by decide +kernel
theorem d_Mo_token_45 : decode c_Mo_token 45 = .ok (.iadd, 1) := by decide +kernel
theorem d_Mo_token_46 : decode c_Mo_token 46 = .ok (.istore 5, 2) := by decide +kernel
theorem d_Mo_token_48 : decode c_Mo_token 48 = .ok (.aload_n 0, 1) := by decide +kernel
theorem d_Mo_token_49 : decode c_Mo_token 49 = .ok (.getfield 31, 3) := by decide +kernel
theorem d_Mo_token_52 : decode c_Mo_token 52 = .ok (.iload 5, 2) := by decide +kernel
theorem d_Mo_token_54 : decode c_Mo_token 54 = .ok (.iload_n 2, 1) := by decide +kernel
theorem d_Mo_token_55 : decode c_Mo_token 55 = .ok (.iastore, 1) := by decide +kernel
theorem d_Mo_token_56 : decode c_Mo_token 56 = .ok (.aload_n 0, 1) := by decide +kernel
theorem d_Mo_token_57 : decode c_Mo_token 57 = .ok (.getfield 34, 3) := by decide +kernel
theorem d_Mo_token_60 : decode c_Mo_token 60 = .ok (.iload 5, 2) := by decide +kernel
theorem d_Mo_token_62 : decode c_Mo_token 62 = .ok (.iload_n 3, 1) := by decide +kernel
theorem d_Mo_token_63 : decode c_Mo_token 63 = .ok (.iastore, 1) := by decide +kernel
theorem d_Mo_token_64 : decode c_Mo_token 64 = .ok (.aload_n 0, 1) := by decide +kernel
theorem d_Mo_token_65 : decode c_Mo_token 65 = .ok (.getfield 37, 3) := by decide +kernel
theorem d_Mo_token_68 : decode c_Mo_token 68 = .ok (.iload 5, 2) := by decide +kernel
theorem d_Mo_token_70 : decode c_Mo_token 70 = .ok (.iload 4, 2) := by decide +kernel
theorem d_Mo_token_72 : decode c_Mo_token 72 = .ok (.iastore, 1) := by decide +kernel
theorem d_Mo_token_73 : decode c_Mo_token 73 = .ok (.aload_n 0, 1) := by decide +kernel
theorem d_Mo_token_74 : decode c_Mo_token 74 = .ok (.getfield 28, 3) := by decide +kernel
theorem d_Mo_token_77 : decode c_Mo_token 77 = .ok (.iload_n 1, 1) := by decide +kernel
theorem d_Mo_token_78 : decode c_Mo_token 78 = .ok (.dup2, 1) := by decide +kernel
theorem d_Mo_token_79 : decode c_Mo_token 79 = .ok (.iaload, 1) := by decide +kernel
theorem d_Mo_token_80 : decode c_Mo_token 80 = .ok (.iconst 1, 1) := by decide +kernel
theorem d_Mo_token_81 : decode c_Mo_token 81 = .ok (.iadd, 1) := by decide +kernel
theorem d_Mo_token_82 : decode c_Mo_token 82 = .ok (.iastore, 1) := by decide +kernel
theorem d_Mo_token_83 : decode c_Mo_token 83 = .ok (.aload_n 0, 1) := by decide +kernel
theorem d_Mo_token_84 : decode c_Mo_token 84 = .ok (.getfield 28, 3) := by decide +kernel
theorem d_Mo_token_87 : decode c_Mo_token 87 = .ok (.iload_n 1, 1) := by decide +kernel
theorem d_Mo_token_88 : decode c_Mo_token 88 = .ok (.iaload, 1) := by decide +kernel
theorem d_Mo_token_89 : decode c_Mo_token 89 = .ok (.ireturn, 1) := by decide +kernel
theorem d_Mo_wipe_0 : decode c_Mo_wipe 0 = .ok (.iload_n 1, 1) := by decide +kernel
theorem d_Mo_wipe_1 : decode c_Mo_wipe 1 = .ok (.iconst 0, 1) := by decide +kernel
theorem d_Mo_wipe_2 : decode c_Mo_wipe 2 = .ok (.iconst 3, 1) := by decide +kernel
theorem d_Mo_wipe_3 : decode c_Mo_wipe 3 = .ok (.invokestatic 105, 3) := by decide +kernel
theorem d_Mo_wipe_6 : decode c_Mo_wipe 6 = .ok (.ifCond .ne 5, 3) := by decide +kernel
theorem d_Mo_wipe_9 : decode c_Mo_wipe 9 = .ok (.iconst (-1), 1) := by decide +kernel
theorem d_Mo_wipe_10 : decode c_Mo_wipe 10 = .ok (.ireturn, 1) := by decide +kernel
theorem d_Mo_wipe_11 : decode c_Mo_wipe 11 = .ok (.aload_n 0, 1) := by decide +kernel
theorem d_Mo_wipe_12 : decode c_Mo_wipe 12 = .ok (.getfield 28, 3) := by decide +kernel
theorem d_Mo_wipe_15 : decode c_Mo_wipe 15 = .ok (.iload_n 1, 1) := by decide +kernel
theorem d_Mo_wipe_16 : decode c_Mo_wipe 16 = .ok (.iaload, 1) := by decide +kernel
theorem d_Mo_wipe_17 : decode c_Mo_wipe 17 = .ok (.istore_n 2, 1) := by decide +kernel
theorem d_Mo_wipe_18 : decode c_Mo_wipe 18 = .ok (.aload_n 0, 1) := by decide +kernel
theorem d_Mo_wipe_19 : decode c_Mo_wipe 19 = .ok (.getfield 28, 3) := by decide +kernel
theorem d_Mo_wipe_22 : decode c_Mo_wipe 22 = .ok (.iload_n 1, 1) := by decide +kernel
theorem d_Mo_wipe_23 : decode c_Mo_wipe 23 = .ok (.iconst 0, 1) := by decide +kernel
theorem d_Mo_wipe_24 : decode c_Mo_wipe 24 = .ok (.iastore, 1) := by decide +kernel
theorem d_Mo_wipe_25 : decode c_Mo_wipe 25 = .ok (.iload_n 2, 1) := by decide +kernel
theorem d_Mo_wipe_26 : decode c_Mo_wipe 26 = .ok (.ireturn, 1) := by decide +kernel
theorem d_Mo_opens_0 : decode c_Mo_opens 0 = .ok (.aload_n 0, 1) := by decide +kernel
theorem d_Mo_opens_1 : decode c_Mo_opens 1 = .ok (.getfield 31, 3) := by decide +kernel
theorem d_Mo_opens_4 : decode c_Mo_opens 4 = .ok (.iload_n 1, 1) := by decide +kernel
theorem d_Mo_opens_5 : decode c_Mo_opens 5 = .ok (.iaload, 1) := by decide +kernel
theorem d_Mo_opens_6 : decode c_Mo_opens 6 = .ok (.iconst 1, 1) := by decide +kernel
theorem d_Mo_opens_7 : decode c_Mo_opens 7 = .ok (.if_icmp .eq 23, 3) := by decide +kernel
theorem d_Mo_opens_10 : decode c_Mo_opens 10 = .ok (.aload_n 0, 1) := by decide +kernel
theorem d_Mo_opens_11 : decode c_Mo_opens 11 = .ok (.getfield 31, 3) := by decide +kernel
theorem d_Mo_opens_14 : decode c_Mo_opens 14 = .ok (.iload_n 1, 1) := by decide +kernel
theorem d_Mo_opens_15 : decode c_Mo_opens 15 = .ok (.iaload, 1) := by decide +kernel
theorem d_Mo_opens_16 : decode c_Mo_opens 16 = .ok (.iconst 3, 1) := by decide +kernel
theorem d_Mo_opens_17 : decode c_Mo_opens 17 = .ok (.if_icmp .eq 13, 3) := by decide +kernel
theorem d_Mo_opens_20 : decode c_Mo_opens 20 = .ok (.aload_n 0, 1) := by decide +kernel
theorem d_Mo_opens_21 : decode c_Mo_opens 21 = .ok (.getfield 31, 3) := by decide +kernel
theorem d_Mo_opens_24 : decode c_Mo_opens 24 = .ok (.iload_n 1, 1) := by decide +kernel
theorem d_Mo_opens_25 : decode c_Mo_opens 25 = .ok (.iaload, 1) := by decide +kernel
theorem d_Mo_opens_26 : decode c_Mo_opens 26 = .ok (.iconst 4, 1) := by decide +kernel
theorem d_Mo_opens_27 : decode c_Mo_opens 27 = .ok (.if_icmp .ne 7, 3) := by decide +kernel
theorem d_Mo_opens_30 : decode c_Mo_opens 30 = .ok (.iconst 1, 1) := by decide +kernel
theorem d_Mo_opens_31 : decode c_Mo_opens 31 = .ok (.goto 4, 3) := by decide +kernel
theorem d_Mo_opens_34 : decode c_Mo_opens 34 = .ok (.iconst 0, 1) := by decide +kernel
theorem d_Mo_opens_35 : decode c_Mo_opens 35 = .ok (.ireturn, 1) := by decide +kernel
theorem d_Mo_good_0 : decode c_Mo_good 0 = .ok (.iconst 1, 1) := by decide +kernel
theorem d_Mo_good_1 : decode c_Mo_good 1 = .ok (.istore_n 2, 1) := by decide +kernel
theorem d_Mo_good_2 : decode c_Mo_good 2 = .ok (.bipush 16, 2) := by decide +kernel
theorem d_Mo_good_4 : decode c_Mo_good 4 = .ok (.iload_n 1, 1) := by decide +kernel
theorem d_Mo_good_5 : decode c_Mo_good 5 = .ok (.imul, 1) := by decide +kernel
theorem d_Mo_good_6 : decode c_Mo_good 6 = .ok (.istore_n 3, 1) := by decide +kernel
theorem d_Mo_good_7 : decode c_Mo_good 7 = .ok (.iload_n 3, 1) := by decide +kernel
theorem d_Mo_good_8 : decode c_Mo_good 8 = .ok (.bipush 16, 2) := by decide +kernel
theorem d_Mo_good_10 : decode c_Mo_good 10 = .ok (.iload_n 1, 1) := by decide +kernel
theorem d_Mo_good_11 : decode c_Mo_good 11 = .ok (.imul, 1) := by decide +kernel
theorem d_Mo_good_12 : decode c_Mo_good 12 = .ok (.aload_n 0, 1) := by decide +kernel
theorem d_Mo_good_13 : decode c_Mo_good 13 = .ok (.getfield 28, 3) := by decide +kernel
theorem d_Mo_good_16 : decode c_Mo_good 16 = .ok (.iload_n 1, 1) := by decide +kernel
theorem d_Mo_good_17 : decode c_Mo_good 17 = .ok (.iaload, 1) := by decide +kernel
theorem d_Mo_good_18 : decode c_Mo_good 18 = .ok (.iadd, 1) := by decide +kernel
theorem d_Mo_good_19 : decode c_Mo_good 19 = .ok (.if_icmp .ge 53, 3) := by decide +kernel
theorem d_Mo_good_22 : decode c_Mo_good 22 = .ok (.iload_n 2, 1) := by decide +kernel
theorem d_Mo_good_23 : decode c_Mo_good 23 = .ok (.ifCond .eq 16, 3) := by decide +kernel
theorem d_Mo_good_26 : decode c_Mo_good 26 = .ok (.aload_n 0, 1) := by decide +kernel
theorem d_Mo_good_27 : decode c_Mo_good 27 = .ok (.iload_n 3, 1) := by decide +kernel
theorem d_Mo_good_28 : decode c_Mo_good 28 = .ok (.invokevirtual 120, 3) := by decide +kernel
theorem d_Mo_good_31 : decode c_Mo_good 31 = .ok (.ifCond .eq 10, 3) := by decide +kernel
theorem d_Mo_good_34 : decode c_Mo_good 34 = .ok (.iload_n 2, 1) := by decide +kernel
theorem d_Mo_good_35 : decode c_Mo_good 35 = .ok (.iconst 4, 1) := by decide +kernel
theorem d_Mo_good_36 : decode c_Mo_good 36 = .ok (.if_icmp .ne 5, 3) := by decide +kernel
theorem d_Mo_good_39 : decode c_Mo_good 39 = .ok (.iconst 0, 1) := by decide +kernel
theorem d_Mo_good_40 : decode c_Mo_good 40 = .ok (.ireturn, 1) := by decide +kernel
theorem d_Mo_good_41 : decode c_Mo_good 41 = .ok (.aload_n 0, 1) := by decide +kernel
theorem d_Mo_good_42 : decode c_Mo_good 42 = .ok (.iload_n 3, 1) := by decide +kernel
theorem d_Mo_good_43 : decode c_Mo_good 43 = .ok (.invokevirtual 120, 3) := by decide +kernel
theorem d_Mo_good_46 : decode c_Mo_good 46 = .ok (.ifCond .eq 6, 3) := by decide +kernel
theorem d_Mo_good_49 : decode c_Mo_good 49 = .ok (.iinc 2 1, 3) := by decide +kernel
theorem d_Mo_good_52 : decode c_Mo_good 52 = .ok (.aload_n 0, 1) := by decide +kernel
theorem d_Mo_good_53 : decode c_Mo_good 53 = .ok (.getfield 31, 3) := by decide +kernel
theorem d_Mo_good_56 : decode c_Mo_good 56 = .ok (.iload_n 3, 1) := by decide +kernel
theorem d_Mo_good_57 : decode c_Mo_good 57 = .ok (.iaload, 1) := by decide +kernel
theorem d_Mo_good_58 : decode c_Mo_good 58 = .ok (.bipush 6, 2) := by decide +kernel
theorem d_Mo_good_60 : decode c_Mo_good 60 = .ok (.if_icmp .ne 6, 3) := by decide +kernel
theorem d_Mo_good_63 : decode c_Mo_good 63 = .ok (.iinc 2 (-1), 3) := by decide +kernel
theorem d_Mo_good_66 : decode c_Mo_good 66 = .ok (.iinc 3 1, 3) := by decide +kernel
theorem d_Mo_good_69 : decode c_Mo_good 69 = .ok (.goto (-62), 3) := by decide +kernel
theorem d_Mo_good_72 : decode c_Mo_good 72 = .ok (.iload_n 2, 1) := by decide +kernel
theorem d_Mo_good_73 : decode c_Mo_good 73 = .ok (.ifCond .ne 7, 3) := by decide +kernel
theorem d_Mo_good_76 : decode c_Mo_good 76 = .ok (.iconst 1, 1) := by decide +kernel
theorem d_Mo_good_77 : decode c_Mo_good 77 = .ok (.goto 4, 3) := by decide +kernel
theorem d_Mo_good_80 : decode c_Mo_good 80 = .ok (.iconst 0, 1) := by decide +kernel
theorem d_Mo_good_81 : decode c_Mo_good 81 = .ok (.ireturn, 1) := by decide +kernel
theorem d_Mo_behind_0 : decode c_Mo_behind 0 = .ok (.iconst 1, 1) := by decide +kernel
theorem d_Mo_behind_1 : decode c_Mo_behind 1 = .ok (.istore_n 2, 1) := by decide +kernel
theorem d_Mo_behind_2 : decode c_Mo_behind 2 = .ok (.iload_n 1, 1) := by decide +kernel
theorem d_Mo_behind_3 : decode c_Mo_behind 3 = .ok (.istore_n 3, 1) := by decide +kernel
theorem d_Mo_behind_4 : decode c_Mo_behind 4 = .ok (.iload_n 2, 1) := by decide +kernel
theorem d_Mo_behind_5 : decode c_Mo_behind 5 = .ok (.ifCond .le 34, 3) := by decide +kernel
theorem d_Mo_behind_8 : decode c_Mo_behind 8 = .ok (.aload_n 0, 1) := by decide +kernel
theorem d_Mo_behind_9 : decode c_Mo_behind 9 = .ok (.iload_n 3, 1) := by decide +kernel
theorem d_Mo_behind_10 : decode c_Mo_behind 10 = .ok (.invokevirtual 120, 3) := by decide +kernel
theorem d_Mo_behind_13 : decode c_Mo_behind 13 = .ok (.ifCond .eq 6, 3) := by decide +kernel
theorem d_Mo_behind_16 : decode c_Mo_behind 16 = .ok (.iinc 2 1, 3) := by decide +kernel
theorem d_Mo_behind_19 : decode c_Mo_behind 19 = .ok (.aload_n 0, 1) := by decide +kernel
theorem d_Mo_behind_20 : decode c_Mo_behind 20 = .ok (.getfield 31, 3) := by decide +kernel
theorem d_Mo_behind_23 : decode c_Mo_behind 23 = .ok (.iload_n 3, 1) := by decide +kernel
theorem d_Mo_behind_24 : decode c_Mo_behind 24 = .ok (.iaload, 1) := by decide +kernel
theorem d_Mo_behind_25 : decode c_Mo_behind 25 = .ok (.bipush 6, 2) := by decide +kernel
theorem d_Mo_behind_27 : decode c_Mo_behind 27 = .ok (.if_icmp .ne 6, 3) := by decide +kernel
theorem d_Mo_behind_30 : decode c_Mo_behind 30 = .ok (.iinc 2 (-1), 3) := by decide +kernel
theorem d_Mo_behind_33 : decode c_Mo_behind 33 = .ok (.iinc 3 1, 3) := by decide +kernel
theorem d_Mo_behind_36 : decode c_Mo_behind 36 = .ok (.goto (-32), 3) := by decide +kernel
theorem d_Mo_behind_39 : decode c_Mo_behind 39 = .ok (.iload_n 3, 1) := by decide +kernel
theorem d_Mo_behind_40 : decode c_Mo_behind 40 = .ok (.ireturn, 1) := by decide +kernel
theorem d_Mo_fieldRight_0 : decode c_Mo_fieldRight 0 = .ok (.iload_n 1, 1) := by decide +kernel
theorem d_Mo_fieldRight_1 : decode c_Mo_fieldRight 1 = .ok (.iconst 5, 1) := by decide +kernel
theorem d_Mo_fieldRight_2 : decode c_Mo_fieldRight 2 = .ok (.if_icmp .eq 18, 3) := by decide +kernel
theorem d_Mo_fieldRight_5 : decode c_Mo_fieldRight 5 = .ok (.aload_n 0, 1) := by decide +kernel
theorem d_Mo_fieldRight_6 : decode c_Mo_fieldRight 6 = .ok (.getfield 37, 3) := by decide +kernel
theorem d_Mo_fieldRight_9 : decode c_Mo_fieldRight 9 = .ok (.iload_n 2, 1) := by decide +kernel
theorem d_Mo_fieldRight_10 : decode c_Mo_fieldRight 10 = .ok (.iaload, 1) := by decide +kernel
theorem d_Mo_fieldRight_11 : decode c_Mo_fieldRight 11 = .ok (.aload_n 0, 1) := by decide +kernel
theorem d_Mo_fieldRight_12 : decode c_Mo_fieldRight 12 = .ok (.getfield 7, 3) := by decide +kernel
theorem d_Mo_fieldRight_15 : decode c_Mo_fieldRight 15 = .ok (.iload_n 1, 1) := by decide +kernel
theorem d_Mo_fieldRight_16 : decode c_Mo_fieldRight 16 = .ok (.iaload, 1) := by decide +kernel
theorem d_Mo_fieldRight_17 : decode c_Mo_fieldRight 17 = .ok (.if_icmp .lt 5, 3) := by decide +kernel
theorem d_Mo_fieldRight_20 : decode c_Mo_fieldRight 20 = .ok (.iconst 0, 1) := by decide +kernel
theorem d_Mo_fieldRight_21 : decode c_Mo_fieldRight 21 = .ok (.ireturn, 1) := by decide +kernel
theorem d_Mo_fieldRight_22 : decode c_Mo_fieldRight 22 = .ok (.aload_n 0, 1) := by decide +kernel
theorem d_Mo_fieldRight_23 : decode c_Mo_fieldRight 23 = .ok (.getfield 13, 3) := by decide +kernel
theorem d_Mo_fieldRight_26 : decode c_Mo_fieldRight 26 = .ok (.bipush 12, 2) := by decide +kernel
theorem d_Mo_fieldRight_28 : decode c_Mo_fieldRight 28 = .ok (.iload_n 1, 1) := by decide +kernel
theorem d_Mo_fieldRight_29 : decode c_Mo_fieldRight 29 = .ok (.imul, 1) := by decide +kernel
theorem d_Mo_fieldRight_30 : decode c_Mo_fieldRight 30 = .ok (.iconst 3, 1) := by decide +kernel
theorem d_Mo_fieldRight_31 : decode c_Mo_fieldRight 31 = .ok (.aload_n 0, 1) := by decide +kernel
theorem d_Mo_fieldRight_32 : decode c_Mo_fieldRight 32 = .ok (.getfield 37, 3) := by decide +kernel
theorem d_Mo_fieldRight_35 : decode c_Mo_fieldRight 35 = .ok (.iload_n 2, 1) := by decide +kernel
theorem d_Mo_fieldRight_36 : decode c_Mo_fieldRight 36 = .ok (.iaload, 1) := by decide +kernel
theorem d_Mo_fieldRight_37 : decode c_Mo_fieldRight 37 = .ok (.imul, 1) := by decide +kernel
theorem d_Mo_fieldRight_38 : decode c_Mo_fieldRight 38 = .ok (.iadd, 1) := by decide +kernel
theorem d_Mo_fieldRight_39 : decode c_Mo_fieldRight 39 = .ok (.iaload, 1) := by decide +kernel
theorem d_Mo_fieldRight_40 : decode c_Mo_fieldRight 40 = .ok (.istore_n 3, 1) := by decide +kernel
theorem d_Mo_fieldRight_41 : decode c_Mo_fieldRight 41 = .ok (.aload_n 0, 1) := by decide +kernel
theorem d_Mo_fieldRight_42 : decode c_Mo_fieldRight 42 = .ok (.getfield 31, 3) := by decide +kernel
theorem d_Mo_fieldRight_45 : decode c_Mo_fieldRight 45 = .ok (.iload_n 2, 1) := by decide +kernel
theorem d_Mo_fieldRight_46 : decode c_Mo_fieldRight 46 = .ok (.iaload, 1) := by decide +kernel
theorem d_Mo_fieldRight_47 : decode c_Mo_fieldRight 47 = .ok (.ifCond .ne 15, 3) := by decide +kernel
theorem d_Mo_fieldRight_50 : decode c_Mo_fieldRight 50 = .ok (.iload_n 3, 1) := by decide +kernel
theorem d_Mo_fieldRight_51 : decode c_Mo_fieldRight 51 = .ok (.ifCond .ne 7, 3) := by decide +kernel
theorem d_Mo_fieldRight_54 : decode c_Mo_fieldRight 54 = .ok (.iconst 1, 1) := by decide +kernel
theorem d_Mo_fieldRight_55 : decode c_Mo_fieldRight 55 = .ok (.goto 16, 3) := by decide +kernel
theorem d_Mo_fieldRight_58 : decode c_Mo_fieldRight 58 = .ok (.iconst 0, 1) := by decide +kernel
theorem d_Mo_fieldRight_59 : decode c_Mo_fieldRight 59 = .ok (.goto 12, 3) := by decide +kernel
theorem d_Mo_fieldRight_62 : decode c_Mo_fieldRight 62 = .ok (.iload_n 3, 1) := by decide +kernel
theorem d_Mo_fieldRight_63 : decode c_Mo_fieldRight 63 = .ok (.ifCond .le 7, 3) := by decide +kernel
theorem d_Mo_fieldRight_66 : decode c_Mo_fieldRight 66 = .ok (.iconst 1, 1) := by decide +kernel
theorem d_Mo_fieldRight_67 : decode c_Mo_fieldRight 67 = .ok (.goto 4, 3) := by decide +kernel
theorem d_Mo_fieldRight_70 : decode c_Mo_fieldRight 70 = .ok (.iconst 0, 1) := by decide +kernel
theorem d_Mo_fieldRight_71 : decode c_Mo_fieldRight 71 = .ok (.ireturn, 1) := by decide +kernel
theorem d_Mo_right_0 : decode c_Mo_right 0 = .ok (.aload_n 0, 1) := by decide +kernel
theorem d_Mo_right_1 : decode c_Mo_right 1 = .ok (.getfield 31, 3) := by decide +kernel
theorem d_Mo_right_4 : decode c_Mo_right 4 = .ok (.iload_n 2, 1) := by decide +kernel
theorem d_Mo_right_5 : decode c_Mo_right 5 = .ok (.iaload, 1) := by decide +kernel
theorem d_Mo_right_6 : decode c_Mo_right 6 = .ok (.tableswitch 112 0 5 #[38, 38, 112, 45, 112, 79], 38) := by decide +kernel
theorem d_Mo_right_44 : decode c_Mo_right 44 = .ok (.aload_n 0, 1) := by decide +kernel
theorem d_Mo_right_45 : decode c_Mo_right 45 = .ok (.iload_n 1, 1) := by decide +kernel
theorem d_Mo_right_46 : decode c_Mo_right 46 = .ok (.iload_n 2, 1) := by decide +kernel
theorem d_Mo_right_47 : decode c_Mo_right 47 = .ok (.invokevirtual 124, 3) := by decide +kernel
theorem d_Mo_right_50 : decode c_Mo_right 50 = .ok (.ireturn, 1) := by decide +kernel
theorem d_Mo_right_51 : decode c_Mo_right 51 = .ok (.aload_n 0, 1) := by decide +kernel
theorem d_Mo_right_52 : decode c_Mo_right 52 = .ok (.getfield 34, 3) := by decide +kernel
theorem d_Mo_right_55 : decode c_Mo_right 55 = .ok (.iload_n 2, 1) := by decide +kernel
theorem d_Mo_right_56 : decode c_Mo_right 56 = .ok (.iaload, 1) := by decide +kernel
theorem d_Mo_right_57 : decode c_Mo_right 57 = .ok (.aload_n 0, 1) := by decide +kernel
theorem d_Mo_right_58 : decode c_Mo_right 58 = .ok (.getfield 99, 3) := by decide +kernel
theorem d_Mo_right_61 : decode c_Mo_right 61 = .ok (.if_icmp .ge 22, 3) := by decide +kernel
theorem d_Mo_right_64 : decode c_Mo_right 64 = .ok (.iload_n 1, 1) := by decide +kernel
theorem d_Mo_right_65 : decode c_Mo_right 65 = .ok (.aload_n 0, 1) := by decide +kernel
theorem d_Mo_right_66 : decode c_Mo_right 66 = .ok (.getfield 34, 3) := by decide +kernel
theorem d_Mo_right_69 : decode c_Mo_right 69 = .ok (.iload_n 2, 1) := by decide +kernel
theorem d_Mo_right_70 : decode c_Mo_right 70 = .ok (.iaload, 1) := by decide +kernel
theorem d_Mo_right_71 : decode c_Mo_right 71 = .ok (.if_icmp .eq 8, 3) := by decide +kernel
theorem d_Mo_right_74 : decode c_Mo_right 74 = .ok (.iload_n 1, 1) := by decide +kernel
theorem d_Mo_right_75 : decode c_Mo_right 75 = .ok (.iconst 5, 1) := by decide +kernel
theorem d_Mo_right_76 : decode c_Mo_right 76 = .ok (.if_icmp .ne 7, 3) := by decide +kernel
theorem d_Mo_right_79 : decode c_Mo_right 79 = .ok (.iconst 1, 1) := by decide +kernel
theorem d_Mo_right_80 : decode c_Mo_right 80 = .ok (.goto 4, 3) := by decide +kernel
theorem d_Mo_right_83 : decode c_Mo_right 83 = .ok (.iconst 0, 1) := by decide +kernel
theorem d_Mo_right_84 : decode c_Mo_right 84 = .ok (.ireturn, 1) := by decide +kernel
theorem d_Mo_right_85 : decode c_Mo_right 85 = .ok (.aload_n 0, 1) := by decide +kernel
theorem d_Mo_right_86 : decode c_Mo_right 86 = .ok (.aload_n 0, 1) := by decide +kernel
theorem d_Mo_right_87 : decode c_Mo_right 87 = .ok (.getfield 34, 3) := by decide +kernel
theorem d_Mo_right_90 : decode c_Mo_right 90 = .ok (.iload_n 2, 1) := by decide +kernel
theorem d_Mo_right_91 : decode c_Mo_right 91 = .ok (.iaload, 1) := by decide +kernel
theorem d_Mo_right_92 : decode c_Mo_right 92 = .ok (.invokevirtual 127, 3) := by decide +kernel
theorem d_Mo_right_95 : decode c_Mo_right 95 = .ok (.ifCond .eq 21, 3) := by decide +kernel
theorem d_Mo_right_98 : decode c_Mo_right 98 = .ok (.aload_n 0, 1) := by decide +kernel
theorem d_Mo_right_99 : decode c_Mo_right 99 = .ok (.getfield 50, 3) := by decide +kernel
theorem d_Mo_right_102 : decode c_Mo_right 102 = .ok (.aload_n 0, 1) := by decide +kernel
theorem d_Mo_right_103 : decode c_Mo_right 103 = .ok (.getfield 34, 3) := by decide +kernel
theorem d_Mo_right_106 : decode c_Mo_right 106 = .ok (.iload_n 2, 1) := by decide +kernel
theorem d_Mo_right_107 : decode c_Mo_right 107 = .ok (.iaload, 1) := by decide +kernel
theorem d_Mo_right_108 : decode c_Mo_right 108 = .ok (.baload, 1) := by decide +kernel
theorem d_Mo_right_109 : decode c_Mo_right 109 = .ok (.ifCond .ne 7, 3) := by decide +kernel
theorem d_Mo_right_112 : decode c_Mo_right 112 = .ok (.iconst 1, 1) := by decide +kernel
theorem d_Mo_right_113 : decode c_Mo_right 113 = .ok (.goto 4, 3) := by decide +kernel
theorem d_Mo_right_116 : decode c_Mo_right 116 = .ok (.iconst 0, 1) := by decide +kernel
theorem d_Mo_right_117 : decode c_Mo_right 117 = .ok (.ireturn, 1) := by decide +kernel
theorem d_Mo_right_118 : decode c_Mo_right 118 = .ok (.iconst 1, 1) := by decide +kernel
theorem d_Mo_right_119 : decode c_Mo_right 119 = .ok (.ireturn, 1) := by decide +kernel
theorem d_Mo_enter_0 : decode c_Mo_enter 0 = .ok (.aload_n 0, 1) := by decide +kernel
theorem d_Mo_enter_1 : decode c_Mo_enter 1 = .ok (.getfield 44, 3) := by decide +kernel
theorem d_Mo_enter_4 : decode c_Mo_enter 4 = .ok (.aload_n 0, 1) := by decide +kernel
theorem d_Mo_enter_5 : decode c_Mo_enter 5 = .ok (.getfield 130, 3) := by decide +kernel
theorem d_Mo_enter_8 : decode c_Mo_enter 8 = .ok (.iload_n 1, 1) := by decide +kernel
theorem d_Mo_enter_9 : decode c_Mo_enter 9 = .ok (.iastore, 1) := by decide +kernel
theorem d_Mo_enter_10 : decode c_Mo_enter 10 = .ok (.aload_n 0, 1) := by decide +kernel
theorem d_Mo_enter_11 : decode c_Mo_enter 11 = .ok (.getfield 47, 3) := by decide +kernel
theorem d_Mo_enter_14 : decode c_Mo_enter 14 = .ok (.aload_n 0, 1) := by decide +kernel
theorem d_Mo_enter_15 : decode c_Mo_enter 15 = .ok (.getfield 130, 3) := by decide +kernel
theorem d_Mo_enter_18 : decode c_Mo_enter 18 = .ok (.iload_n 2, 1) := by decide +kernel
theorem d_Mo_enter_19 : decode c_Mo_enter 19 = .ok (.iastore, 1) := by decide +kernel
theorem d_Mo_enter_20 : decode c_Mo_enter 20 = .ok (.aload_n 0, 1) := by decide +kernel
theorem d_Mo_enter_21 : decode c_Mo_enter 21 = .ok (.dup, 1) := by decide +kernel
theorem d_Mo_enter_22 : decode c_Mo_enter 22 = .ok (.getfield 130, 3) := by decide +kernel
theorem d_Mo_enter_25 : decode c_Mo_enter 25 = .ok (.iconst 1, 1) := by decide +kernel
theorem d_Mo_enter_26 : decode c_Mo_enter 26 = .ok (.iadd, 1) := by decide +kernel
theorem d_Mo_enter_27 : decode c_Mo_enter 27 = .ok (.putfield 130, 3) := by decide +kernel
theorem d_Mo_enter_30 : decode c_Mo_enter 30 = .ok (.return_, 1) := by decide +kernel
theorem d_Mo_through_0 : decode c_Mo_through 0 = .ok (.aload_n 0, 1) := by decide +kernel
theorem d_Mo_through_1 : decode c_Mo_through 1 = .ok (.getfield 44, 3) := by decide +kernel
theorem d_Mo_through_4 : decode c_Mo_through 4 = .ok (.aload_n 0, 1) := by decide +kernel
theorem d_Mo_through_5 : decode c_Mo_through 5 = .ok (.getfield 130, 3) := by decide +kernel
theorem d_Mo_through_8 : decode c_Mo_through 8 = .ok (.iconst 1, 1) := by decide +kernel
theorem d_Mo_through_9 : decode c_Mo_through 9 = .ok (.isub, 1) := by decide +kernel
theorem d_Mo_through_10 : decode c_Mo_through 10 = .ok (.iaload, 1) := by decide +kernel
theorem d_Mo_through_11 : decode c_Mo_through 11 = .ok (.istore_n 2, 1) := by decide +kernel
theorem d_Mo_through_12 : decode c_Mo_through 12 = .ok (.aload_n 0, 1) := by decide +kernel
theorem d_Mo_through_13 : decode c_Mo_through 13 = .ok (.getfield 31, 3) := by decide +kernel
theorem d_Mo_through_16 : decode c_Mo_through 16 = .ok (.iload_n 1, 1) := by decide +kernel
theorem d_Mo_through_17 : decode c_Mo_through 17 = .ok (.iaload, 1) := by decide +kernel
theorem d_Mo_through_18 : decode c_Mo_through 18 = .ok (.tableswitch 161 1 6 #[38, 161, 66, 80, 89, 119], 38) := by decide +kernel
theorem d_Mo_through_56 : decode c_Mo_through 56 = .ok (.aload_n 0, 1) := by decide +kernel
theorem d_Mo_through_57 : decode c_Mo_through 57 = .ok (.aload_n 0, 1) := by decide +kernel
theorem d_Mo_through_58 : decode c_Mo_through 58 = .ok (.getfield 13, 3) := by decide +kernel
theorem d_Mo_through_61 : decode c_Mo_through 61 = .ok (.bipush 12, 2) := by decide +kernel
theorem d_Mo_through_63 : decode c_Mo_through 63 = .ok (.iload_n 2, 1) := by decide +kernel
theorem d_Mo_through_64 : decode c_Mo_through 64 = .ok (.imul, 1) := by decide +kernel
theorem d_Mo_through_65 : decode c_Mo_through 65 = .ok (.iconst 3, 1) := by decide +kernel
theorem d_Mo_through_66 : decode c_Mo_through 66 = .ok (.aload_n 0, 1) := by decide +kernel
theorem d_Mo_through_67 : decode c_Mo_through 67 = .ok (.getfield 37, 3) := by decide +kernel
theorem d_Mo_through_70 : decode c_Mo_through 70 = .ok (.iload_n 1, 1) := by decide +kernel
theorem d_Mo_through_71 : decode c_Mo_through 71 = .ok (.iaload, 1) := by decide +kernel
theorem d_Mo_through_72 : decode c_Mo_through 72 = .ok (.imul, 1) := by decide +kernel
theorem d_Mo_through_73 : decode c_Mo_through 73 = .ok (.iadd, 1) := by decide +kernel
theorem d_Mo_through_74 : decode c_Mo_through 74 = .ok (.iconst 1, 1) := by decide +kernel
theorem d_Mo_through_75 : decode c_Mo_through 75 = .ok (.iadd, 1) := by decide +kernel
theorem d_Mo_through_76 : decode c_Mo_through 76 = .ok (.iaload, 1) := by decide +kernel
theorem d_Mo_through_77 : decode c_Mo_through 77 = .ok (.iconst (-1), 1) := by decide +kernel
theorem d_Mo_through_78 : decode c_Mo_through 78 = .ok (.invokevirtual 133, 3) := by decide +kernel
theorem d_Mo_through_81 : decode c_Mo_through 81 = .ok (.goto 98, 3) := by decide +kernel
theorem d_Mo_through_84 : decode c_Mo_through 84 = .ok (.aload_n 0, 1) := by decide +kernel
theorem d_Mo_through_85 : decode c_Mo_through 85 = .ok (.aload_n 0, 1) := by decide +kernel
theorem d_Mo_through_86 : decode c_Mo_through 86 = .ok (.getfield 34, 3) := by decide +kernel
theorem d_Mo_through_89 : decode c_Mo_through 89 = .ok (.iload_n 1, 1) := by decide +kernel
theorem d_Mo_through_90 : decode c_Mo_through 90 = .ok (.iaload, 1) := by decide +kernel
theorem d_Mo_through_91 : decode c_Mo_through 91 = .ok (.iconst (-1), 1) := by decide +kernel
theorem d_Mo_through_92 : decode c_Mo_through 92 = .ok (.invokevirtual 133, 3) := by decide +kernel
theorem d_Mo_through_95 : decode c_Mo_through 95 = .ok (.goto 84, 3) := by decide +kernel
theorem d_Mo_through_98 : decode c_Mo_through 98 = .ok (.aload_n 0, 1) := by decide +kernel
theorem d_Mo_through_99 : decode c_Mo_through 99 = .ok (.iload_n 2, 1) := by decide +kernel
theorem d_Mo_through_100 : decode c_Mo_through 100 = .ok (.iconst (-1), 1) := by decide +kernel
theorem d_Mo_through_101 : decode c_Mo_through 101 = .ok (.invokevirtual 133, 3) := by decide +kernel
theorem d_Mo_through_104 : decode c_Mo_through 104 = .ok (.goto 75, 3) := by decide +kernel
theorem d_Mo_through_107 : decode c_Mo_through 107 = .ok (.aload_n 0, 1) := by decide +kernel
theorem d_Mo_through_108 : decode c_Mo_through 108 = .ok (.getfield 50, 3) := by decide +kernel
theorem d_Mo_through_111 : decode c_Mo_through 111 = .ok (.aload_n 0, 1) := by decide +kernel
theorem d_Mo_through_112 : decode c_Mo_through 112 = .ok (.getfield 34, 3) := by decide +kernel
theorem d_Mo_through_115 : decode c_Mo_through 115 = .ok (.iload_n 1, 1) := by decide +kernel
theorem d_Mo_through_116 : decode c_Mo_through 116 = .ok (.iaload, 1) := by decide +kernel
theorem d_Mo_through_117 : decode c_Mo_through 117 = .ok (.iconst 1, 1) := by decide +kernel
theorem d_Mo_through_118 : decode c_Mo_through 118 = .ok (.bastore, 1) := by decide +kernel
theorem d_Mo_through_119 : decode c_Mo_through 119 = .ok (.aload_n 0, 1) := by decide +kernel
theorem d_Mo_through_120 : decode c_Mo_through 120 = .ok (.iload_n 2, 1) := by decide +kernel
theorem d_Mo_through_121 : decode c_Mo_through 121 = .ok (.iload_n 1, 1) := by decide +kernel
theorem d_Mo_through_122 : decode c_Mo_through 122 = .ok (.iconst 1, 1) := by decide +kernel
theorem d_Mo_through_123 : decode c_Mo_through 123 = .ok (.iadd, 1) := by decide +kernel
theorem d_Mo_through_124 : decode c_Mo_through 124 = .ok (.invokevirtual 133, 3) := by decide +kernel
theorem d_Mo_through_127 : decode c_Mo_through 127 = .ok (.bipush 16, 2) := by decide +kernel
theorem d_Mo_through_129 : decode c_Mo_through 129 = .ok (.aload_n 0, 1) := by decide +kernel
theorem d_Mo_through_130 : decode c_Mo_through 130 = .ok (.getfield 34, 3) := by decide +kernel
theorem d_Mo_through_133 : decode c_Mo_through 133 = .ok (.iload_n 1, 1) := by decide +kernel
theorem d_Mo_through_134 : decode c_Mo_through 134 = .ok (.iaload, 1) := by decide +kernel
theorem d_Mo_through_135 : decode c_Mo_through 135 = .ok (.imul, 1) := by decide +kernel
theorem d_Mo_through_136 : decode c_Mo_through 136 = .ok (.ireturn, 1) := by decide +kernel
theorem d_Mo_through_137 : decode c_Mo_through 137 = .ok (.aload_n 0, 1) := by decide +kernel
theorem d_Mo_through_138 : decode c_Mo_through 138 = .ok (.dup, 1) := by decide +kernel
theorem d_Mo_through_139 : decode c_Mo_through 139 = .ok (.getfield 130, 3) := by decide +kernel
theorem d_Mo_through_142 : decode c_Mo_through 142 = .ok (.iconst 1, 1) := by decide +kernel
theorem d_Mo_through_143 : decode c_Mo_through 143 = .ok (.isub, 1) := by decide +kernel
theorem d_Mo_through_144 : decode c_Mo_through 144 = .ok (.putfield 130, 3) := by decide +kernel
theorem d_Mo_through_147 : decode c_Mo_through 147 = .ok (.aload_n 0, 1) := by decide +kernel
theorem d_Mo_through_148 : decode c_Mo_through 148 = .ok (.getfield 47, 3) := by decide +kernel
theorem d_Mo_through_151 : decode c_Mo_through 151 = .ok (.aload_n 0, 1) := by decide +kernel
theorem d_Mo_through_152 : decode c_Mo_through 152 = .ok (.getfield 130, 3) := by decide +kernel
theorem d_Mo_through_155 : decode c_Mo_through 155 = .ok (.iaload, 1) := by decide +kernel
theorem d_Mo_through_156 : decode c_Mo_through 156 = .ok (.ifCond .lt 23, 3) := by decide +kernel
theorem d_Mo_through_159 : decode c_Mo_through 159 = .ok (.aload_n 0, 1) := by decide +kernel
theorem d_Mo_through_160 : decode c_Mo_through 160 = .ok (.getfield 50, 3) := by decide +kernel
theorem d_Mo_through_163 : decode c_Mo_through 163 = .ok (.iload_n 1, 1) := by decide +kernel
theorem d_Mo_through_164 : decode c_Mo_through 164 = .ok (.bipush 16, 2) := by decide +kernel
theorem d_Mo_through_166 : decode c_Mo_through 166 = .ok (.idiv, 1) := by decide +kernel
theorem d_Mo_through_167 : decode c_Mo_through 167 = .ok (.iconst 0, 1) := by decide +kernel
theorem d_Mo_through_168 : decode c_Mo_through 168 = .ok (.bastore, 1) := by decide +kernel
theorem d_Mo_through_169 : decode c_Mo_through 169 = .ok (.aload_n 0, 1) := by decide +kernel
theorem d_Mo_through_170 : decode c_Mo_through 170 = .ok (.getfield 47, 3) := by decide +kernel
theorem d_Mo_through_173 : decode c_Mo_through 173 = .ok (.aload_n 0, 1) := by decide +kernel
theorem d_Mo_through_174 : decode c_Mo_through 174 = .ok (.getfield 130, 3) := by decide +kernel
theorem d_Mo_through_177 : decode c_Mo_through 177 = .ok (.iaload, 1) := by decide +kernel
theorem d_Mo_through_178 : decode c_Mo_through 178 = .ok (.ireturn, 1) := by decide +kernel
theorem d_Mo_through_179 : decode c_Mo_through 179 = .ok (.iload_n 1, 1) := by decide +kernel
theorem d_Mo_through_180 : decode c_Mo_through 180 = .ok (.iconst 1, 1) := by decide +kernel
theorem d_Mo_through_181 : decode c_Mo_through 181 = .ok (.iadd, 1) := by decide +kernel
theorem d_Mo_through_182 : decode c_Mo_through 182 = .ok (.ireturn, 1) := by decide +kernel
theorem d_Mo_checked_0 : decode c_Mo_checked 0 = .ok (.aload_n 0, 1) := by decide +kernel
theorem d_Mo_checked_1 : decode c_Mo_checked 1 = .ok (.iconst 0, 1) := by decide +kernel
theorem d_Mo_checked_2 : decode c_Mo_checked 2 = .ok (.putfield 40, 3) := by decide +kernel
theorem d_Mo_checked_5 : decode c_Mo_checked 5 = .ok (.aload_n 0, 1) := by decide +kernel
theorem d_Mo_checked_6 : decode c_Mo_checked 6 = .ok (.iconst 0, 1) := by decide +kernel
end
section
theorem d_Mo_checked_7 : decode c_Mo_checked 7 = .ok (.invokevirtual 127, 3) := by decide +kernel
theorem d_Mo_checked_10 : decode c_Mo_checked 10 = .ok (.ifCond .ne 5, 3) := by decide +kernel
theorem d_Mo_checked_13 : decode c_Mo_checked 13 = .ok (.iconst 0, 1) := by decide +kernel
theorem d_Mo_checked_14 : decode c_Mo_checked 14 = .ok (.ireturn, 1) := by decide +kernel
theorem d_Mo_checked_15 : decode c_Mo_checked 15 = .ok (.iconst 0, 1) := by decide +kernel
theorem d_Mo_checked_16 : decode c_Mo_checked 16 = .ok (.istore_n 2, 1) := by decide +kernel
theorem d_Mo_checked_17 : decode c_Mo_checked 17 = .ok (.iload_n 2, 1) := by decide +kernel
theorem d_Mo_checked_18 : decode c_Mo_checked 18 = .ok (.iconst 4, 1) := by decide +kernel
theorem d_Mo_checked_19 : decode c_Mo_checked 19 = .ok (.if_icmp .ge 16, 3) := by decide +kernel
theorem d_Mo_checked_22 : decode c_Mo_checked 22 = .ok (.aload_n 0, 1) := by decide +kernel
theorem d_Mo_checked_23 : decode c_Mo_checked 23 = .ok (.getfield 50, 3) := by decide +kernel
theorem d_Mo_checked_26 : decode c_Mo_checked 26 = .ok (.iload_n 2, 1) := by decide +kernel
theorem d_Mo_checked_27 : decode c_Mo_checked 27 = .ok (.iconst 0, 1) := by decide +kernel
theorem d_Mo_checked_28 : decode c_Mo_checked 28 = .ok (.bastore, 1) := by decide +kernel
theorem d_Mo_checked_29 : decode c_Mo_checked 29 = .ok (.iinc 2 1, 3) := by decide +kernel
theorem d_Mo_checked_32 : decode c_Mo_checked 32 = .ok (.goto (-15), 3) := by decide +kernel
theorem d_Mo_checked_35 : decode c_Mo_checked 35 = .ok (.aload_n 0, 1) := by decide +kernel
theorem d_Mo_checked_36 : decode c_Mo_checked 36 = .ok (.iconst 0, 1) := by decide +kernel
theorem d_Mo_checked_37 : decode c_Mo_checked 37 = .ok (.putfield 130, 3) := by decide +kernel
theorem d_Mo_checked_40 : decode c_Mo_checked 40 = .ok (.aload_n 0, 1) := by decide +kernel
theorem d_Mo_checked_41 : decode c_Mo_checked 41 = .ok (.iload_n 1, 1) := by decide +kernel
theorem d_Mo_checked_42 : decode c_Mo_checked 42 = .ok (.iconst (-1), 1) := by decide +kernel
theorem d_Mo_checked_43 : decode c_Mo_checked 43 = .ok (.invokevirtual 133, 3) := by decide +kernel
theorem d_Mo_checked_46 : decode c_Mo_checked 46 = .ok (.iconst 0, 1) := by decide +kernel
theorem d_Mo_checked_47 : decode c_Mo_checked 47 = .ok (.istore_n 2, 1) := by decide +kernel
theorem d_Mo_checked_48 : decode c_Mo_checked 48 = .ok (.iconst 1, 1) := by decide +kernel
theorem d_Mo_checked_49 : decode c_Mo_checked 49 = .ok (.istore_n 3, 1) := by decide +kernel
theorem d_Mo_checked_50 : decode c_Mo_checked 50 = .ok (.aload_n 0, 1) := by decide +kernel
theorem d_Mo_checked_51 : decode c_Mo_checked 51 = .ok (.getfield 130, 3) := by decide +kernel
theorem d_Mo_checked_54 : decode c_Mo_checked 54 = .ok (.ifCond .le 47, 3) := by decide +kernel
theorem d_Mo_checked_57 : decode c_Mo_checked 57 = .ok (.aload_n 0, 1) := by decide +kernel
theorem d_Mo_checked_58 : decode c_Mo_checked 58 = .ok (.iload_n 2, 1) := by decide +kernel
theorem d_Mo_checked_59 : decode c_Mo_checked 59 = .ok (.putfield 40, 3) := by decide +kernel
theorem d_Mo_checked_62 : decode c_Mo_checked 62 = .ok (.iload_n 3, 1) := by decide +kernel
theorem d_Mo_checked_63 : decode c_Mo_checked 63 = .ok (.bipush 60, 2) := by decide +kernel
theorem d_Mo_checked_65 : decode c_Mo_checked 65 = .ok (.if_icmp .gt 22, 3) := by decide +kernel
theorem d_Mo_checked_68 : decode c_Mo_checked 68 = .ok (.aload_n 0, 1) := by decide +kernel
theorem d_Mo_checked_69 : decode c_Mo_checked 69 = .ok (.aload_n 0, 1) := by decide +kernel
theorem d_Mo_checked_70 : decode c_Mo_checked 70 = .ok (.getfield 44, 3) := by decide +kernel
theorem d_Mo_checked_73 : decode c_Mo_checked 73 = .ok (.aload_n 0, 1) := by decide +kernel
theorem d_Mo_checked_74 : decode c_Mo_checked 74 = .ok (.getfield 130, 3) := by decide +kernel
theorem d_Mo_checked_77 : decode c_Mo_checked 77 = .ok (.iconst 1, 1) := by decide +kernel
theorem d_Mo_checked_78 : decode c_Mo_checked 78 = .ok (.isub, 1) := by decide +kernel
theorem d_Mo_checked_79 : decode c_Mo_checked 79 = .ok (.iaload, 1) := by decide +kernel
theorem d_Mo_checked_80 : decode c_Mo_checked 80 = .ok (.iload_n 2, 1) := by decide +kernel
theorem d_Mo_checked_81 : decode c_Mo_checked 81 = .ok (.invokevirtual 137, 3) := by decide +kernel
theorem d_Mo_checked_84 : decode c_Mo_checked 84 = .ok (.ifCond .ne 5, 3) := by decide +kernel
theorem d_Mo_checked_87 : decode c_Mo_checked 87 = .ok (.iconst 0, 1) := by decide +kernel
theorem d_Mo_checked_88 : decode c_Mo_checked 88 = .ok (.ireturn, 1) := by decide +kernel
theorem d_Mo_checked_89 : decode c_Mo_checked 89 = .ok (.aload_n 0, 1) := by decide +kernel
theorem d_Mo_checked_90 : decode c_Mo_checked 90 = .ok (.iload_n 2, 1) := by decide +kernel
theorem d_Mo_checked_91 : decode c_Mo_checked 91 = .ok (.invokevirtual 140, 3) := by decide +kernel
theorem d_Mo_checked_94 : decode c_Mo_checked 94 = .ok (.istore_n 2, 1) := by decide +kernel
theorem d_Mo_checked_95 : decode c_Mo_checked 95 = .ok (.iinc 3 1, 3) := by decide +kernel
theorem d_Mo_checked_98 : decode c_Mo_checked 98 = .ok (.goto (-48), 3) := by decide +kernel
theorem d_Mo_checked_101 : decode c_Mo_checked 101 = .ok (.aload_n 0, 1) := by decide +kernel
theorem d_Mo_checked_102 : decode c_Mo_checked 102 = .ok (.iconst (-1), 1) := by decide +kernel
theorem d_Mo_checked_103 : decode c_Mo_checked 103 = .ok (.putfield 40, 3) := by decide +kernel
theorem d_Mo_checked_106 : decode c_Mo_checked 106 = .ok (.iconst 1, 1) := by decide +kernel
theorem d_Mo_checked_107 : decode c_Mo_checked 107 = .ok (.ireturn, 1) := by decide +kernel
theorem d_Mo_check_0 : decode c_Mo_check 0 = .ok (.iload_n 1, 1) := by decide +kernel
theorem d_Mo_check_1 : decode c_Mo_check 1 = .ok (.iconst 0, 1) := by decide +kernel
theorem d_Mo_check_2 : decode c_Mo_check 2 = .ok (.aload_n 0, 1) := by decide +kernel
theorem d_Mo_check_3 : decode c_Mo_check 3 = .ok (.getfield 99, 3) := by decide +kernel
theorem d_Mo_check_6 : decode c_Mo_check 6 = .ok (.iconst 1, 1) := by decide +kernel
theorem d_Mo_check_7 : decode c_Mo_check 7 = .ok (.isub, 1) := by decide +kernel
theorem d_Mo_check_8 : decode c_Mo_check 8 = .ok (.invokestatic 105, 3) := by decide +kernel
theorem d_Mo_check_11 : decode c_Mo_check 11 = .ok (.ifCond .ne 5, 3) := by decide +kernel
theorem d_Mo_check_14 : decode c_Mo_check 14 = .ok (.iconst (-1), 1) := by decide +kernel
theorem d_Mo_check_15 : decode c_Mo_check 15 = .ok (.ireturn, 1) := by decide +kernel
theorem d_Mo_check_16 : decode c_Mo_check 16 = .ok (.aload_n 0, 1) := by decide +kernel
theorem d_Mo_check_17 : decode c_Mo_check 17 = .ok (.iload_n 1, 1) := by decide +kernel
theorem d_Mo_check_18 : decode c_Mo_check 18 = .ok (.invokevirtual 144, 3) := by decide +kernel
theorem d_Mo_check_21 : decode c_Mo_check 21 = .ok (.ifCond .eq 7, 3) := by decide +kernel
theorem d_Mo_check_24 : decode c_Mo_check 24 = .ok (.iconst 0, 1) := by decide +kernel
theorem d_Mo_check_25 : decode c_Mo_check 25 = .ok (.goto 5, 3) := by decide +kernel
theorem d_Mo_check_28 : decode c_Mo_check 28 = .ok (.bipush (-3), 2) := by decide +kernel
theorem d_Mo_check_30 : decode c_Mo_check 30 = .ok (.ireturn, 1) := by decide +kernel
theorem d_Mo_place_0 : decode c_Mo_place 0 = .ok (.aload_n 0, 1) := by decide +kernel
theorem d_Mo_place_1 : decode c_Mo_place 1 = .ok (.getfield 40, 3) := by decide +kernel
theorem d_Mo_place_4 : decode c_Mo_place 4 = .ok (.ireturn, 1) := by decide +kernel
theorem d_Mo_addSet_0 : decode c_Mo_addSet 0 = .ok (.aload_n 0, 1) := by decide +kernel
theorem d_Mo_addSet_1 : decode c_Mo_addSet 1 = .ok (.getfield 72, 3) := by decide +kernel
theorem d_Mo_addSet_4 : decode c_Mo_addSet 4 = .ok (.bipush 64, 2) := by decide +kernel
theorem d_Mo_addSet_6 : decode c_Mo_addSet 6 = .ok (.iload_n 1, 1) := by decide +kernel
theorem d_Mo_addSet_7 : decode c_Mo_addSet 7 = .ok (.imul, 1) := by decide +kernel
theorem d_Mo_addSet_8 : decode c_Mo_addSet 8 = .ok (.aload_n 0, 1) := by decide +kernel
theorem d_Mo_addSet_9 : decode c_Mo_addSet 9 = .ok (.getfield 69, 3) := by decide +kernel
theorem d_Mo_addSet_12 : decode c_Mo_addSet 12 = .ok (.iload_n 1, 1) := by decide +kernel
theorem d_Mo_addSet_13 : decode c_Mo_addSet 13 = .ok (.iaload, 1) := by decide +kernel
theorem d_Mo_addSet_14 : decode c_Mo_addSet 14 = .ok (.iadd, 1) := by decide +kernel
theorem d_Mo_addSet_15 : decode c_Mo_addSet 15 = .ok (.iload_n 3, 1) := by decide +kernel
theorem d_Mo_addSet_16 : decode c_Mo_addSet 16 = .ok (.iastore, 1) := by decide +kernel
theorem d_Mo_addSet_17 : decode c_Mo_addSet 17 = .ok (.aload_n 0, 1) := by decide +kernel
theorem d_Mo_addSet_18 : decode c_Mo_addSet 18 = .ok (.getfield 75, 3) := by decide +kernel
theorem d_Mo_addSet_21 : decode c_Mo_addSet 21 = .ok (.bipush 64, 2) := by decide +kernel
theorem d_Mo_addSet_23 : decode c_Mo_addSet 23 = .ok (.iload_n 1, 1) := by decide +kernel
theorem d_Mo_addSet_24 : decode c_Mo_addSet 24 = .ok (.imul, 1) := by decide +kernel
theorem d_Mo_addSet_25 : decode c_Mo_addSet 25 = .ok (.aload_n 0, 1) := by decide +kernel
theorem d_Mo_addSet_26 : decode c_Mo_addSet 26 = .ok (.getfield 69, 3) := by decide +kernel
theorem d_Mo_addSet_29 : decode c_Mo_addSet 29 = .ok (.iload_n 1, 1) := by decide +kernel
theorem d_Mo_addSet_30 : decode c_Mo_addSet 30 = .ok (.iaload, 1) := by decide +kernel
theorem d_Mo_addSet_31 : decode c_Mo_addSet 31 = .ok (.iadd, 1) := by decide +kernel
theorem d_Mo_addSet_32 : decode c_Mo_addSet 32 = .ok (.iload_n 2, 1) := by decide +kernel
theorem d_Mo_addSet_33 : decode c_Mo_addSet 33 = .ok (.iastore, 1) := by decide +kernel
theorem d_Mo_addSet_34 : decode c_Mo_addSet 34 = .ok (.aload_n 0, 1) := by decide +kernel
theorem d_Mo_addSet_35 : decode c_Mo_addSet 35 = .ok (.getfield 69, 3) := by decide +kernel
theorem d_Mo_addSet_38 : decode c_Mo_addSet 38 = .ok (.iload_n 1, 1) := by decide +kernel
theorem d_Mo_addSet_39 : decode c_Mo_addSet 39 = .ok (.dup2, 1) := by decide +kernel
theorem d_Mo_addSet_40 : decode c_Mo_addSet 40 = .ok (.iaload, 1) := by decide +kernel
theorem d_Mo_addSet_41 : decode c_Mo_addSet 41 = .ok (.iconst 1, 1) := by decide +kernel
theorem d_Mo_addSet_42 : decode c_Mo_addSet 42 = .ok (.iadd, 1) := by decide +kernel
theorem d_Mo_addSet_43 : decode c_Mo_addSet 43 = .ok (.iastore, 1) := by decide +kernel
theorem d_Mo_addSet_44 : decode c_Mo_addSet 44 = .ok (.return_, 1) := by decide +kernel
theorem d_Mo_take_0 : decode c_Mo_take 0 = .ok (.iconst 0, 1) := by decide +kernel
theorem d_Mo_take_1 : decode c_Mo_take 1 = .ok (.istore_n 3, 1) := by decide +kernel
theorem d_Mo_take_2 : decode c_Mo_take 2 = .ok (.iload_n 3, 1) := by decide +kernel
theorem d_Mo_take_3 : decode c_Mo_take 3 = .ok (.aload_n 0, 1) := by decide +kernel
theorem d_Mo_take_4 : decode c_Mo_take 4 = .ok (.getfield 57, 3) := by decide +kernel
theorem d_Mo_take_7 : decode c_Mo_take 7 = .ok (.iload_n 1, 1) := by decide +kernel
theorem d_Mo_take_8 : decode c_Mo_take 8 = .ok (.iaload, 1) := by decide +kernel
theorem d_Mo_take_9 : decode c_Mo_take 9 = .ok (.if_icmp .ge 29, 3) := by decide +kernel
theorem d_Mo_take_12 : decode c_Mo_take 12 = .ok (.aload_n 0, 1) := by decide +kernel
theorem d_Mo_take_13 : decode c_Mo_take 13 = .ok (.getfield 60, 3) := by decide +kernel
theorem d_Mo_take_16 : decode c_Mo_take 16 = .ok (.bipush 10, 2) := by decide +kernel
theorem d_Mo_take_18 : decode c_Mo_take 18 = .ok (.iload_n 1, 1) := by decide +kernel
theorem d_Mo_take_19 : decode c_Mo_take 19 = .ok (.imul, 1) := by decide +kernel
theorem d_Mo_take_20 : decode c_Mo_take 20 = .ok (.iload_n 3, 1) := by decide +kernel
theorem d_Mo_take_21 : decode c_Mo_take 21 = .ok (.iadd, 1) := by decide +kernel
theorem d_Mo_take_22 : decode c_Mo_take 22 = .ok (.iaload, 1) := by decide +kernel
theorem d_Mo_take_23 : decode c_Mo_take 23 = .ok (.aload_n 0, 1) := by decide +kernel
theorem d_Mo_take_24 : decode c_Mo_take 24 = .ok (.getfield 34, 3) := by decide +kernel
theorem d_Mo_take_27 : decode c_Mo_take 27 = .ok (.iload_n 2, 1) := by decide +kernel
theorem d_Mo_take_28 : decode c_Mo_take 28 = .ok (.iaload, 1) := by decide +kernel
theorem d_Mo_take_29 : decode c_Mo_take 29 = .ok (.if_icmp .eq 9, 3) := by decide +kernel
theorem d_Mo_take_32 : decode c_Mo_take 32 = .ok (.iinc 3 1, 3) := by decide +kernel
theorem d_Mo_take_35 : decode c_Mo_take 35 = .ok (.goto (-33), 3) := by decide +kernel
theorem d_Mo_take_38 : decode c_Mo_take 38 = .ok (.bipush 10, 2) := by decide +kernel
theorem d_Mo_take_40 : decode c_Mo_take 40 = .ok (.iload_n 1, 1) := by decide +kernel
theorem d_Mo_take_41 : decode c_Mo_take 41 = .ok (.imul, 1) := by decide +kernel
theorem d_Mo_take_42 : decode c_Mo_take 42 = .ok (.iload_n 3, 1) := by decide +kernel
theorem d_Mo_take_43 : decode c_Mo_take 43 = .ok (.iadd, 1) := by decide +kernel
theorem d_Mo_take_44 : decode c_Mo_take 44 = .ok (.istore 4, 2) := by decide +kernel
theorem d_Mo_take_46 : decode c_Mo_take 46 = .ok (.iload_n 3, 1) := by decide +kernel
theorem d_Mo_take_47 : decode c_Mo_take 47 = .ok (.aload_n 0, 1) := by decide +kernel
theorem d_Mo_take_48 : decode c_Mo_take 48 = .ok (.getfield 57, 3) := by decide +kernel
theorem d_Mo_take_51 : decode c_Mo_take 51 = .ok (.iload_n 1, 1) := by decide +kernel
theorem d_Mo_take_52 : decode c_Mo_take 52 = .ok (.iaload, 1) := by decide +kernel
theorem d_Mo_take_53 : decode c_Mo_take 53 = .ok (.if_icmp .ne 66, 3) := by decide +kernel
theorem d_Mo_take_56 : decode c_Mo_take 56 = .ok (.aload_n 0, 1) := by decide +kernel
theorem d_Mo_take_57 : decode c_Mo_take 57 = .ok (.getfield 60, 3) := by decide +kernel
theorem d_Mo_take_60 : decode c_Mo_take 60 = .ok (.iload 4, 2) := by decide +kernel
theorem d_Mo_take_62 : decode c_Mo_take 62 = .ok (.aload_n 0, 1) := by decide +kernel
theorem d_Mo_take_63 : decode c_Mo_take 63 = .ok (.getfield 34, 3) := by decide +kernel
theorem d_Mo_take_66 : decode c_Mo_take 66 = .ok (.iload_n 2, 1) := by decide +kernel
theorem d_Mo_take_67 : decode c_Mo_take 67 = .ok (.iaload, 1) := by decide +kernel
theorem d_Mo_take_68 : decode c_Mo_take 68 = .ok (.iastore, 1) := by decide +kernel
theorem d_Mo_take_69 : decode c_Mo_take 69 = .ok (.aload_n 0, 1) := by decide +kernel
theorem d_Mo_take_70 : decode c_Mo_take 70 = .ok (.getfield 63, 3) := by decide +kernel
theorem d_Mo_take_73 : decode c_Mo_take 73 = .ok (.iload 4, 2) := by decide +kernel
theorem d_Mo_take_75 : decode c_Mo_take 75 = .ok (.aload_n 0, 1) := by decide +kernel
theorem d_Mo_take_76 : decode c_Mo_take 76 = .ok (.getfield 31, 3) := by decide +kernel
theorem d_Mo_take_79 : decode c_Mo_take 79 = .ok (.iload_n 2, 1) := by decide +kernel
theorem d_Mo_take_80 : decode c_Mo_take 80 = .ok (.iaload, 1) := by decide +kernel
theorem d_Mo_take_81 : decode c_Mo_take 81 = .ok (.iastore, 1) := by decide +kernel
theorem d_Mo_take_82 : decode c_Mo_take 82 = .ok (.aload_n 0, 1) := by decide +kernel
theorem d_Mo_take_83 : decode c_Mo_take 83 = .ok (.getfield 66, 3) := by decide +kernel
theorem d_Mo_take_86 : decode c_Mo_take 86 = .ok (.iload 4, 2) := by decide +kernel
theorem d_Mo_take_88 : decode c_Mo_take 88 = .ok (.aload_n 0, 1) := by decide +kernel
theorem d_Mo_take_89 : decode c_Mo_take 89 = .ok (.getfield 31, 3) := by decide +kernel
theorem d_Mo_take_92 : decode c_Mo_take 92 = .ok (.iload_n 2, 1) := by decide +kernel
theorem d_Mo_take_93 : decode c_Mo_take 93 = .ok (.iaload, 1) := by decide +kernel
theorem d_Mo_take_94 : decode c_Mo_take 94 = .ok (.iconst 2, 1) := by decide +kernel
theorem d_Mo_take_95 : decode c_Mo_take 95 = .ok (.if_icmp .ne 7, 3) := by decide +kernel
theorem d_Mo_take_98 : decode c_Mo_take 98 = .ok (.iconst 0, 1) := by decide +kernel
theorem d_Mo_take_99 : decode c_Mo_take 99 = .ok (.goto 9, 3) := by decide +kernel
theorem d_Mo_take_102 : decode c_Mo_take 102 = .ok (.aload_n 0, 1) := by decide +kernel
theorem d_Mo_take_103 : decode c_Mo_take 103 = .ok (.getfield 37, 3) := by decide +kernel
theorem d_Mo_take_106 : decode c_Mo_take 106 = .ok (.iload_n 2, 1) := by decide +kernel
theorem d_Mo_take_107 : decode c_Mo_take 107 = .ok (.iaload, 1) := by decide +kernel
theorem d_Mo_take_108 : decode c_Mo_take 108 = .ok (.iastore, 1) := by decide +kernel
theorem d_Mo_take_109 : decode c_Mo_take 109 = .ok (.aload_n 0, 1) := by decide +kernel
theorem d_Mo_take_110 : decode c_Mo_take 110 = .ok (.getfield 57, 3) := by decide +kernel
theorem d_Mo_take_113 : decode c_Mo_take 113 = .ok (.iload_n 1, 1) := by decide +kernel
theorem d_Mo_take_114 : decode c_Mo_take 114 = .ok (.dup2, 1) := by decide +kernel
theorem d_Mo_take_115 : decode c_Mo_take 115 = .ok (.iaload, 1) := by decide +kernel
theorem d_Mo_take_116 : decode c_Mo_take 116 = .ok (.iconst 1, 1) := by decide +kernel
theorem d_Mo_take_117 : decode c_Mo_take 117 = .ok (.iadd, 1) := by decide +kernel
theorem d_Mo_take_118 : decode c_Mo_take 118 = .ok (.iastore, 1) := by decide +kernel
theorem d_Mo_take_119 : decode c_Mo_take 119 = .ok (.aload_n 0, 1) := by decide +kernel
theorem d_Mo_take_120 : decode c_Mo_take 120 = .ok (.getfield 63, 3) := by decide +kernel
theorem d_Mo_take_123 : decode c_Mo_take 123 = .ok (.iload 4, 2) := by decide +kernel
theorem d_Mo_take_125 : decode c_Mo_take 125 = .ok (.iaload, 1) := by decide +kernel
theorem d_Mo_take_126 : decode c_Mo_take 126 = .ok (.aload_n 0, 1) := by decide +kernel
theorem d_Mo_take_127 : decode c_Mo_take 127 = .ok (.getfield 31, 3) := by decide +kernel
theorem d_Mo_take_130 : decode c_Mo_take 130 = .ok (.iload_n 2, 1) := by decide +kernel
theorem d_Mo_take_131 : decode c_Mo_take 131 = .ok (.iaload, 1) := by decide +kernel
theorem d_Mo_take_132 : decode c_Mo_take 132 = .ok (.if_icmp .ne 29, 3) := by decide +kernel
theorem d_Mo_take_135 : decode c_Mo_take 135 = .ok (.aload_n 0, 1) := by decide +kernel
theorem d_Mo_take_136 : decode c_Mo_take 136 = .ok (.getfield 31, 3) := by decide +kernel
theorem d_Mo_take_139 : decode c_Mo_take 139 = .ok (.iload_n 2, 1) := by decide +kernel
theorem d_Mo_take_140 : decode c_Mo_take 140 = .ok (.iaload, 1) := by decide +kernel
theorem d_Mo_take_141 : decode c_Mo_take 141 = .ok (.iconst 2, 1) := by decide +kernel
theorem d_Mo_take_142 : decode c_Mo_take 142 = .ok (.if_icmp .eq 21, 3) := by decide +kernel
theorem d_Mo_take_145 : decode c_Mo_take 145 = .ok (.aload_n 0, 1) := by decide +kernel
theorem d_Mo_take_146 : decode c_Mo_take 146 = .ok (.getfield 66, 3) := by decide +kernel
theorem d_Mo_take_149 : decode c_Mo_take 149 = .ok (.iload 4, 2) := by decide +kernel
theorem d_Mo_take_151 : decode c_Mo_take 151 = .ok (.iaload, 1) := by decide +kernel
theorem d_Mo_take_152 : decode c_Mo_take 152 = .ok (.aload_n 0, 1) := by decide +kernel
theorem d_Mo_take_153 : decode c_Mo_take 153 = .ok (.getfield 37, 3) := by decide +kernel
theorem d_Mo_take_156 : decode c_Mo_take 156 = .ok (.iload_n 2, 1) := by decide +kernel
theorem d_Mo_take_157 : decode c_Mo_take 157 = .ok (.iaload, 1) := by decide +kernel
theorem d_Mo_take_158 : decode c_Mo_take 158 = .ok (.if_icmp .eq 5, 3) := by decide +kernel
theorem d_Mo_take_161 : decode c_Mo_take 161 = .ok (.iconst 0, 1) := by decide +kernel
theorem d_Mo_take_162 : decode c_Mo_take 162 = .ok (.ireturn, 1) := by decide +kernel
theorem d_Mo_take_163 : decode c_Mo_take 163 = .ok (.aload_n 0, 1) := by decide +kernel
theorem d_Mo_take_164 : decode c_Mo_take 164 = .ok (.getfield 31, 3) := by decide +kernel
theorem d_Mo_take_167 : decode c_Mo_take 167 = .ok (.iload_n 2, 1) := by decide +kernel
theorem d_Mo_take_168 : decode c_Mo_take 168 = .ok (.iaload, 1) := by decide +kernel
theorem d_Mo_take_169 : decode c_Mo_take 169 = .ok (.iconst 1, 1) := by decide +kernel
theorem d_Mo_take_170 : decode c_Mo_take 170 = .ok (.if_icmp .ne 12, 3) := by decide +kernel
theorem d_Mo_take_173 : decode c_Mo_take 173 = .ok (.aload_n 0, 1) := by decide +kernel
theorem d_Mo_take_174 : decode c_Mo_take 174 = .ok (.iload_n 1, 1) := by decide +kernel
theorem d_Mo_take_175 : decode c_Mo_take 175 = .ok (.iload_n 3, 1) := by decide +kernel
theorem d_Mo_take_176 : decode c_Mo_take 176 = .ok (.iload_n 2, 1) := by decide +kernel
theorem d_Mo_take_177 : decode c_Mo_take 177 = .ok (.iconst 1, 1) := by decide +kernel
theorem d_Mo_take_178 : decode c_Mo_take 178 = .ok (.iadd, 1) := by decide +kernel
theorem d_Mo_take_179 : decode c_Mo_take 179 = .ok (.invokevirtual 147, 3) := by decide +kernel
theorem d_Mo_take_182 : decode c_Mo_take 182 = .ok (.iconst 1, 1) := by decide +kernel
theorem d_Mo_take_183 : decode c_Mo_take 183 = .ok (.ireturn, 1) := by decide +kernel
theorem d_Mo_collectOne_0 : decode c_Mo_collectOne 0 = .ok (.aload_n 0, 1) := by decide +kernel
theorem d_Mo_collectOne_1 : decode c_Mo_collectOne 1 = .ok (.iconst 0, 1) := by decide +kernel
theorem d_Mo_collectOne_2 : decode c_Mo_collectOne 2 = .ok (.putfield 130, 3) := by decide +kernel
theorem d_Mo_collectOne_5 : decode c_Mo_collectOne 5 = .ok (.aload_n 0, 1) := by decide +kernel
theorem d_Mo_collectOne_6 : decode c_Mo_collectOne 6 = .ok (.iconst 0, 1) := by decide +kernel
theorem d_Mo_collectOne_7 : decode c_Mo_collectOne 7 = .ok (.iconst (-1), 1) := by decide +kernel
theorem d_Mo_collectOne_8 : decode c_Mo_collectOne 8 = .ok (.invokevirtual 133, 3) := by decide +kernel
theorem d_Mo_collectOne_11 : decode c_Mo_collectOne 11 = .ok (.iload_n 2, 1) := by decide +kernel
theorem d_Mo_collectOne_12 : decode c_Mo_collectOne 12 = .ok (.istore_n 3, 1) := by decide +kernel
theorem d_Mo_collectOne_13 : decode c_Mo_collectOne 13 = .ok (.aload_n 0, 1) := by decide +kernel
theorem d_Mo_collectOne_14 : decode c_Mo_collectOne 14 = .ok (.getfield 130, 3) := by decide +kernel
theorem d_Mo_collectOne_17 : decode c_Mo_collectOne 17 = .ok (.ifCond .le 225, 3) := by decide +kernel
theorem d_Mo_collectOne_20 : decode c_Mo_collectOne 20 = .ok (.aload_n 0, 1) := by decide +kernel
theorem d_Mo_collectOne_21 : decode c_Mo_collectOne 21 = .ok (.getfield 31, 3) := by decide +kernel
theorem d_Mo_collectOne_24 : decode c_Mo_collectOne 24 = .ok (.iload_n 3, 1) := by decide +kernel
theorem d_Mo_collectOne_25 : decode c_Mo_collectOne 25 = .ok (.iaload, 1) := by decide +kernel
theorem d_Mo_collectOne_26 : decode c_Mo_collectOne 26 = .ok (.istore 4, 2) := by decide +kernel
theorem d_Mo_collectOne_28 : decode c_Mo_collectOne 28 = .ok (.iload 4, 2) := by decide +kernel
theorem d_Mo_collectOne_30 : decode c_Mo_collectOne 30 = .ok (.iconst 3, 1) := by decide +kernel
theorem d_Mo_collectOne_31 : decode c_Mo_collectOne 31 = .ok (.if_icmp .ne 31, 3) := by decide +kernel
theorem d_Mo_collectOne_34 : decode c_Mo_collectOne 34 = .ok (.aload_n 0, 1) := by decide +kernel
theorem d_Mo_collectOne_35 : decode c_Mo_collectOne 35 = .ok (.getfield 16, 3) := by decide +kernel
theorem d_Mo_collectOne_38 : decode c_Mo_collectOne 38 = .ok (.aload_n 0, 1) := by decide +kernel
theorem d_Mo_collectOne_39 : decode c_Mo_collectOne 39 = .ok (.getfield 54, 3) := by decide +kernel
theorem d_Mo_collectOne_42 : decode c_Mo_collectOne 42 = .ok (.iload_n 1, 1) := by decide +kernel
theorem d_Mo_collectOne_43 : decode c_Mo_collectOne 43 = .ok (.iaload, 1) := by decide +kernel
theorem d_Mo_collectOne_44 : decode c_Mo_collectOne 44 = .ok (.iaload, 1) := by decide +kernel
theorem d_Mo_collectOne_45 : decode c_Mo_collectOne 45 = .ok (.aload_n 0, 1) := by decide +kernel
theorem d_Mo_collectOne_46 : decode c_Mo_collectOne 46 = .ok (.getfield 34, 3) := by decide +kernel
theorem d_Mo_collectOne_49 : decode c_Mo_collectOne 49 = .ok (.iload_n 3, 1) := by decide +kernel
theorem d_Mo_collectOne_50 : decode c_Mo_collectOne 50 = .ok (.iaload, 1) := by decide +kernel
theorem d_Mo_collectOne_51 : decode c_Mo_collectOne 51 = .ok (.if_icmp .ne 7, 3) := by decide +kernel
theorem d_Mo_collectOne_54 : decode c_Mo_collectOne 54 = .ok (.iconst 1, 1) := by decide +kernel
theorem d_Mo_collectOne_55 : decode c_Mo_collectOne 55 = .ok (.goto 34, 3) := by decide +kernel
theorem d_Mo_collectOne_58 : decode c_Mo_collectOne 58 = .ok (.iconst 0, 1) := by decide +kernel
theorem d_Mo_collectOne_59 : decode c_Mo_collectOne 59 = .ok (.goto 30, 3) := by decide +kernel
theorem d_Mo_collectOne_62 : decode c_Mo_collectOne 62 = .ok (.aload_n 0, 1) := by decide +kernel
theorem d_Mo_collectOne_63 : decode c_Mo_collectOne 63 = .ok (.getfield 25, 3) := by decide +kernel
theorem d_Mo_collectOne_66 : decode c_Mo_collectOne 66 = .ok (.aload_n 0, 1) := by decide +kernel
theorem d_Mo_collectOne_67 : decode c_Mo_collectOne 67 = .ok (.getfield 34, 3) := by decide +kernel
theorem d_Mo_collectOne_70 : decode c_Mo_collectOne 70 = .ok (.iload_n 3, 1) := by decide +kernel
theorem d_Mo_collectOne_71 : decode c_Mo_collectOne 71 = .ok (.iaload, 1) := by decide +kernel
theorem d_Mo_collectOne_72 : decode c_Mo_collectOne 72 = .ok (.iconst 3, 1) := by decide +kernel
theorem d_Mo_collectOne_73 : decode c_Mo_collectOne 73 = .ok (.iand, 1) := by decide +kernel
theorem d_Mo_collectOne_74 : decode c_Mo_collectOne 74 = .ok (.iaload, 1) := by decide +kernel
theorem d_Mo_collectOne_75 : decode c_Mo_collectOne 75 = .ok (.aload_n 0, 1) := by decide +kernel
theorem d_Mo_collectOne_76 : decode c_Mo_collectOne 76 = .ok (.getfield 37, 3) := by decide +kernel
theorem d_Mo_collectOne_79 : decode c_Mo_collectOne 79 = .ok (.iload_n 3, 1) := by decide +kernel
theorem d_Mo_collectOne_80 : decode c_Mo_collectOne 80 = .ok (.iaload, 1) := by decide +kernel
theorem d_Mo_collectOne_81 : decode c_Mo_collectOne 81 = .ok (.if_icmp .ne 7, 3) := by decide +kernel
theorem d_Mo_collectOne_84 : decode c_Mo_collectOne 84 = .ok (.iconst 1, 1) := by decide +kernel
theorem d_Mo_collectOne_85 : decode c_Mo_collectOne 85 = .ok (.goto 4, 3) := by decide +kernel
theorem d_Mo_collectOne_88 : decode c_Mo_collectOne 88 = .ok (.iconst 0, 1) := by decide +kernel
theorem d_Mo_collectOne_89 : decode c_Mo_collectOne 89 = .ok (.istore 5, 2) := by decide +kernel
theorem d_Mo_collectOne_91 : decode c_Mo_collectOne 91 = .ok (.iload 4, 2) := by decide +kernel
theorem d_Mo_collectOne_93 : decode c_Mo_collectOne 93 = .ok (.iconst 3, 1) := by decide +kernel
theorem d_Mo_collectOne_94 : decode c_Mo_collectOne 94 = .ok (.if_icmp .ge 14, 3) := by decide +kernel
theorem d_Mo_collectOne_97 : decode c_Mo_collectOne 97 = .ok (.aload_n 0, 1) := by decide +kernel
theorem d_Mo_collectOne_98 : decode c_Mo_collectOne 98 = .ok (.iload_n 1, 1) := by decide +kernel
theorem d_Mo_collectOne_99 : decode c_Mo_collectOne 99 = .ok (.iload_n 3, 1) := by decide +kernel
theorem d_Mo_collectOne_100 : decode c_Mo_collectOne 100 = .ok (.invokevirtual 151, 3) := by decide +kernel
theorem d_Mo_collectOne_103 : decode c_Mo_collectOne 103 = .ok (.ifCond .ne 5, 3) := by decide +kernel
theorem d_Mo_collectOne_106 : decode c_Mo_collectOne 106 = .ok (.iconst 0, 1) := by decide +kernel
theorem d_Mo_collectOne_107 : decode c_Mo_collectOne 107 = .ok (.ireturn, 1) := by decide +kernel
theorem d_Mo_collectOne_108 : decode c_Mo_collectOne 108 = .ok (.iload 4, 2) := by decide +kernel
theorem d_Mo_collectOne_110 : decode c_Mo_collectOne 110 = .ok (.iconst 1, 1) := by decide +kernel
theorem d_Mo_collectOne_111 : decode c_Mo_collectOne 111 = .ok (.if_icmp .eq 20, 3) := by decide +kernel
theorem d_Mo_collectOne_114 : decode c_Mo_collectOne 114 = .ok (.iload 4, 2) := by decide +kernel
theorem d_Mo_collectOne_116 : decode c_Mo_collectOne 116 = .ok (.iconst 3, 1) := by decide +kernel
theorem d_Mo_collectOne_117 : decode c_Mo_collectOne 117 = .ok (.if_icmp .eq 9, 3) := by decide +kernel
theorem d_Mo_collectOne_120 : decode c_Mo_collectOne 120 = .ok (.iload 4, 2) := by decide +kernel
theorem d_Mo_collectOne_122 : decode c_Mo_collectOne 122 = .ok (.iconst 4, 1) := by decide +kernel
theorem d_Mo_collectOne_123 : decode c_Mo_collectOne 123 = .ok (.if_icmp .ne 19, 3) := by decide +kernel
theorem d_Mo_collectOne_126 : decode c_Mo_collectOne 126 = .ok (.iload 5, 2) := by decide +kernel
theorem d_Mo_collectOne_128 : decode c_Mo_collectOne 128 = .ok (.ifCond .ne 14, 3) := by decide +kernel
theorem d_Mo_collectOne_131 : decode c_Mo_collectOne 131 = .ok (.aload_n 0, 1) := by decide +kernel
theorem d_Mo_collectOne_132 : decode c_Mo_collectOne 132 = .ok (.iload_n 3, 1) := by decide +kernel
theorem d_Mo_collectOne_133 : decode c_Mo_collectOne 133 = .ok (.iconst 1, 1) := by decide +kernel
theorem d_Mo_collectOne_134 : decode c_Mo_collectOne 134 = .ok (.iadd, 1) := by decide +kernel
theorem d_Mo_collectOne_135 : decode c_Mo_collectOne 135 = .ok (.invokevirtual 154, 3) := by decide +kernel
theorem d_Mo_collectOne_138 : decode c_Mo_collectOne 138 = .ok (.istore_n 3, 1) := by decide +kernel
theorem d_Mo_collectOne_139 : decode c_Mo_collectOne 139 = .ok (.goto 100, 3) := by decide +kernel
theorem d_Mo_collectOne_142 : decode c_Mo_collectOne 142 = .ok (.iload 4, 2) := by decide +kernel
theorem d_Mo_collectOne_144 : decode c_Mo_collectOne 144 = .ok (.iconst 5, 1) := by decide +kernel
theorem d_Mo_collectOne_145 : decode c_Mo_collectOne 145 = .ok (.if_icmp .ne 24, 3) := by decide +kernel
theorem d_Mo_collectOne_148 : decode c_Mo_collectOne 148 = .ok (.aload_n 0, 1) := by decide +kernel
theorem d_Mo_collectOne_149 : decode c_Mo_collectOne 149 = .ok (.iconst 0, 1) := by decide +kernel
theorem d_Mo_collectOne_150 : decode c_Mo_collectOne 150 = .ok (.iload_n 3, 1) := by decide +kernel
theorem d_Mo_collectOne_151 : decode c_Mo_collectOne 151 = .ok (.iconst 1, 1) := by decide +kernel
theorem d_Mo_collectOne_152 : decode c_Mo_collectOne 152 = .ok (.iadd, 1) := by decide +kernel
theorem d_Mo_collectOne_153 : decode c_Mo_collectOne 153 = .ok (.invokevirtual 133, 3) := by decide +kernel
theorem d_Mo_collectOne_156 : decode c_Mo_collectOne 156 = .ok (.bipush 16, 2) := by decide +kernel
theorem d_Mo_collectOne_158 : decode c_Mo_collectOne 158 = .ok (.aload_n 0, 1) := by decide +kernel
theorem d_Mo_collectOne_159 : decode c_Mo_collectOne 159 = .ok (.getfield 34, 3) := by decide +kernel
theorem d_Mo_collectOne_162 : decode c_Mo_collectOne 162 = .ok (.iload_n 3, 1) := by decide +kernel
theorem d_Mo_collectOne_163 : decode c_Mo_collectOne 163 = .ok (.iaload, 1) := by decide +kernel
theorem d_Mo_collectOne_164 : decode c_Mo_collectOne 164 = .ok (.imul, 1) := by decide +kernel
theorem d_Mo_collectOne_165 : decode c_Mo_collectOne 165 = .ok (.istore_n 3, 1) := by decide +kernel
theorem d_Mo_collectOne_166 : decode c_Mo_collectOne 166 = .ok (.goto 73, 3) := by decide +kernel
theorem d_Mo_collectOne_169 : decode c_Mo_collectOne 169 = .ok (.iload 4, 2) := by decide +kernel
theorem d_Mo_collectOne_171 : decode c_Mo_collectOne 171 = .ok (.iconst 3, 1) := by decide +kernel
theorem d_Mo_collectOne_172 : decode c_Mo_collectOne 172 = .ok (.if_icmp .eq 9, 3) := by decide +kernel
theorem d_Mo_collectOne_175 : decode c_Mo_collectOne 175 = .ok (.iload 4, 2) := by decide +kernel
theorem d_Mo_collectOne_177 : decode c_Mo_collectOne 177 = .ok (.iconst 4, 1) := by decide +kernel
theorem d_Mo_collectOne_178 : decode c_Mo_collectOne 178 = .ok (.if_icmp .ne 9, 3) := by decide +kernel
theorem d_Mo_collectOne_181 : decode c_Mo_collectOne 181 = .ok (.aload_n 0, 1) := by decide +kernel
theorem d_Mo_collectOne_182 : decode c_Mo_collectOne 182 = .ok (.iconst 0, 1) := by decide +kernel
theorem d_Mo_collectOne_183 : decode c_Mo_collectOne 183 = .ok (.iconst (-1), 1) := by decide +kernel
theorem d_Mo_collectOne_184 : decode c_Mo_collectOne 184 = .ok (.invokevirtual 133, 3) := by decide +kernel
theorem d_Mo_collectOne_187 : decode c_Mo_collectOne 187 = .ok (.iload 4, 2) := by decide +kernel
theorem d_Mo_collectOne_189 : decode c_Mo_collectOne 189 = .ok (.bipush 6, 2) := by decide +kernel
theorem d_Mo_collectOne_191 : decode c_Mo_collectOne 191 = .ok (.if_icmp .ne 13, 3) := by decide +kernel
theorem d_Mo_collectOne_194 : decode c_Mo_collectOne 194 = .ok (.aload_n 0, 1) := by decide +kernel
theorem d_Mo_collectOne_195 : decode c_Mo_collectOne 195 = .ok (.dup, 1) := by decide +kernel
theorem d_Mo_collectOne_196 : decode c_Mo_collectOne 196 = .ok (.getfield 130, 3) := by decide +kernel
theorem d_Mo_collectOne_199 : decode c_Mo_collectOne 199 = .ok (.iconst 1, 1) := by decide +kernel
theorem d_Mo_collectOne_200 : decode c_Mo_collectOne 200 = .ok (.isub, 1) := by decide +kernel
theorem d_Mo_collectOne_201 : decode c_Mo_collectOne 201 = .ok (.putfield 130, 3) := by decide +kernel
theorem d_Mo_collectOne_204 : decode c_Mo_collectOne 204 = .ok (.iload 4, 2) := by decide +kernel
theorem d_Mo_collectOne_206 : decode c_Mo_collectOne 206 = .ok (.bipush 6, 2) := by decide +kernel
theorem d_Mo_collectOne_208 : decode c_Mo_collectOne 208 = .ok (.if_icmp .ne 27, 3) := by decide +kernel
theorem d_Mo_collectOne_211 : decode c_Mo_collectOne 211 = .ok (.aload_n 0, 1) := by decide +kernel
theorem d_Mo_collectOne_212 : decode c_Mo_collectOne 212 = .ok (.getfield 47, 3) := by decide +kernel
theorem d_Mo_collectOne_215 : decode c_Mo_collectOne 215 = .ok (.aload_n 0, 1) := by decide +kernel
theorem d_Mo_collectOne_216 : decode c_Mo_collectOne 216 = .ok (.getfield 130, 3) := by decide +kernel
theorem d_Mo_collectOne_219 : decode c_Mo_collectOne 219 = .ok (.iaload, 1) := by decide +kernel
theorem d_Mo_collectOne_220 : decode c_Mo_collectOne 220 = .ok (.ifCond .lt 15, 3) := by decide +kernel
theorem d_Mo_collectOne_223 : decode c_Mo_collectOne 223 = .ok (.aload_n 0, 1) := by decide +kernel
theorem d_Mo_collectOne_224 : decode c_Mo_collectOne 224 = .ok (.getfield 47, 3) := by decide +kernel
theorem d_Mo_collectOne_227 : decode c_Mo_collectOne 227 = .ok (.aload_n 0, 1) := by decide +kernel
theorem d_Mo_collectOne_228 : decode c_Mo_collectOne 228 = .ok (.getfield 130, 3) := by decide +kernel
theorem d_Mo_collectOne_231 : decode c_Mo_collectOne 231 = .ok (.iaload, 1) := by decide +kernel
theorem d_Mo_collectOne_232 : decode c_Mo_collectOne 232 = .ok (.goto 6, 3) := by decide +kernel
theorem d_Mo_collectOne_235 : decode c_Mo_collectOne 235 = .ok (.iload_n 3, 1) := by decide +kernel
theorem d_Mo_collectOne_236 : decode c_Mo_collectOne 236 = .ok (.iconst 1, 1) := by decide +kernel
theorem d_Mo_collectOne_237 : decode c_Mo_collectOne 237 = .ok (.iadd, 1) := by decide +kernel
theorem d_Mo_collectOne_238 : decode c_Mo_collectOne 238 = .ok (.istore_n 3, 1) := by decide +kernel
theorem d_Mo_collectOne_239 : decode c_Mo_collectOne 239 = .ok (.goto (-226), 3) := by decide +kernel
theorem d_Mo_collectOne_242 : decode c_Mo_collectOne 242 = .ok (.iconst 1, 1) := by decide +kernel
theorem d_Mo_collectOne_243 : decode c_Mo_collectOne 243 = .ok (.ireturn, 1) := by decide +kernel
theorem d_Mo_begin_0 : decode c_Mo_begin 0 = .ok (.aload_n 0, 1) := by decide +kernel
theorem d_Mo_begin_1 : decode c_Mo_begin 1 = .ok (.getfield 157, 3) := by decide +kernel
theorem d_Mo_begin_4 : decode c_Mo_begin 4 = .ok (.istore_n 2, 1) := by decide +kernel
theorem d_Mo_begin_5 : decode c_Mo_begin 5 = .ok (.aload_n 0, 1) := by decide +kernel
theorem d_Mo_begin_6 : decode c_Mo_begin 6 = .ok (.dup, 1) := by decide +kernel
theorem d_Mo_begin_7 : decode c_Mo_begin 7 = .ok (.getfield 157, 3) := by decide +kernel
theorem d_Mo_begin_10 : decode c_Mo_begin 10 = .ok (.iconst 1, 1) := by decide +kernel
theorem d_Mo_begin_11 : decode c_Mo_begin 11 = .ok (.iadd, 1) := by decide +kernel
theorem d_Mo_begin_12 : decode c_Mo_begin 12 = .ok (.putfield 157, 3) := by decide +kernel
theorem d_Mo_begin_15 : decode c_Mo_begin 15 = .ok (.aload_n 0, 1) := by decide +kernel
theorem d_Mo_begin_16 : decode c_Mo_begin 16 = .ok (.getfield 54, 3) := by decide +kernel
theorem d_Mo_begin_19 : decode c_Mo_begin 19 = .ok (.iload_n 2, 1) := by decide +kernel
theorem d_Mo_begin_20 : decode c_Mo_begin 20 = .ok (.iload_n 1, 1) := by decide +kernel
theorem d_Mo_begin_21 : decode c_Mo_begin 21 = .ok (.iastore, 1) := by decide +kernel
theorem d_Mo_begin_22 : decode c_Mo_begin 22 = .ok (.aload_n 0, 1) := by decide +kernel
theorem d_Mo_begin_23 : decode c_Mo_begin 23 = .ok (.getfield 57, 3) := by decide +kernel
theorem d_Mo_begin_26 : decode c_Mo_begin 26 = .ok (.iload_n 2, 1) := by decide +kernel
theorem d_Mo_begin_27 : decode c_Mo_begin 27 = .ok (.iconst 0, 1) := by decide +kernel
theorem d_Mo_begin_28 : decode c_Mo_begin 28 = .ok (.iastore, 1) := by decide +kernel
theorem d_Mo_begin_29 : decode c_Mo_begin 29 = .ok (.aload_n 0, 1) := by decide +kernel
theorem d_Mo_begin_30 : decode c_Mo_begin 30 = .ok (.getfield 69, 3) := by decide +kernel
theorem d_Mo_begin_33 : decode c_Mo_begin 33 = .ok (.iload_n 2, 1) := by decide +kernel
theorem d_Mo_begin_34 : decode c_Mo_begin 34 = .ok (.iconst 0, 1) := by decide +kernel
theorem d_Mo_begin_35 : decode c_Mo_begin 35 = .ok (.iastore, 1) := by decide +kernel
theorem d_Mo_begin_36 : decode c_Mo_begin 36 = .ok (.aload_n 0, 1) := by decide +kernel
theorem d_Mo_begin_37 : decode c_Mo_begin 37 = .ok (.getfield 78, 3) := by decide +kernel
theorem d_Mo_begin_40 : decode c_Mo_begin 40 = .ok (.iload_n 2, 1) := by decide +kernel
theorem d_Mo_begin_41 : decode c_Mo_begin 41 = .ok (.iconst 0, 1) := by decide +kernel
theorem d_Mo_begin_42 : decode c_Mo_begin 42 = .ok (.iastore, 1) := by decide +kernel
theorem d_Mo_begin_43 : decode c_Mo_begin 43 = .ok (.aload_n 0, 1) := by decide +kernel
theorem d_Mo_begin_44 : decode c_Mo_begin 44 = .ok (.getfield 81, 3) := by decide +kernel
theorem d_Mo_begin_47 : decode c_Mo_begin 47 = .ok (.iload_n 2, 1) := by decide +kernel
theorem d_Mo_begin_48 : decode c_Mo_begin 48 = .ok (.iconst (-1), 1) := by decide +kernel
theorem d_Mo_begin_49 : decode c_Mo_begin 49 = .ok (.iastore, 1) := by decide +kernel
theorem d_Mo_begin_50 : decode c_Mo_begin 50 = .ok (.aload_n 0, 1) := by decide +kernel
theorem d_Mo_begin_51 : decode c_Mo_begin 51 = .ok (.getfield 87, 3) := by decide +kernel
theorem d_Mo_begin_54 : decode c_Mo_begin 54 = .ok (.iload_n 2, 1) := by decide +kernel
theorem d_Mo_begin_55 : decode c_Mo_begin 55 = .ok (.iconst 0, 1) := by decide +kernel
theorem d_Mo_begin_56 : decode c_Mo_begin 56 = .ok (.bastore, 1) := by decide +kernel
theorem d_Mo_begin_57 : decode c_Mo_begin 57 = .ok (.aload_n 0, 1) := by decide +kernel
theorem d_Mo_begin_58 : decode c_Mo_begin 58 = .ok (.getfield 84, 3) := by decide +kernel
theorem d_Mo_begin_61 : decode c_Mo_begin 61 = .ok (.iload_n 2, 1) := by decide +kernel
theorem d_Mo_begin_62 : decode c_Mo_begin 62 = .ok (.aload_n 0, 1) := by decide +kernel
theorem d_Mo_begin_63 : decode c_Mo_begin 63 = .ok (.getfield 160, 3) := by decide +kernel
theorem d_Mo_begin_66 : decode c_Mo_begin 66 = .ok (.iastore, 1) := by decide +kernel
theorem d_Mo_begin_67 : decode c_Mo_begin 67 = .ok (.iload_n 2, 1) := by decide +kernel
theorem d_Mo_begin_68 : decode c_Mo_begin 68 = .ok (.ifCond .gt 12, 3) := by decide +kernel
theorem d_Mo_begin_71 : decode c_Mo_begin 71 = .ok (.aload_n 0, 1) := by decide +kernel
theorem d_Mo_begin_72 : decode c_Mo_begin 72 = .ok (.iconst 0, 1) := by decide +kernel
theorem d_Mo_begin_73 : decode c_Mo_begin 73 = .ok (.iconst 0, 1) := by decide +kernel
theorem d_Mo_begin_74 : decode c_Mo_begin 74 = .ok (.invokevirtual 163, 3) := by decide +kernel
theorem d_Mo_begin_77 : decode c_Mo_begin 77 = .ok (.ifCond .eq 7, 3) := by decide +kernel
theorem d_Mo_begin_80 : decode c_Mo_begin 80 = .ok (.iconst 1, 1) := by decide +kernel
theorem d_Mo_begin_81 : decode c_Mo_begin 81 = .ok (.goto 4, 3) := by decide +kernel
theorem d_Mo_begin_84 : decode c_Mo_begin 84 = .ok (.iconst 0, 1) := by decide +kernel
theorem d_Mo_begin_85 : decode c_Mo_begin 85 = .ok (.istore_n 3, 1) := by decide +kernel
theorem d_Mo_begin_86 : decode c_Mo_begin 86 = .ok (.iconst 0, 1) := by decide +kernel
theorem d_Mo_begin_87 : decode c_Mo_begin 87 = .ok (.istore 4, 2) := by decide +kernel
theorem d_Mo_begin_89 : decode c_Mo_begin 89 = .ok (.iload_n 3, 1) := by decide +kernel
theorem d_Mo_begin_90 : decode c_Mo_begin 90 = .ok (.ifCond .eq 73, 3) := by decide +kernel
theorem d_Mo_begin_93 : decode c_Mo_begin 93 = .ok (.iload_n 2, 1) := by decide +kernel
theorem d_Mo_begin_94 : decode c_Mo_begin 94 = .ok (.ifCond .le 69, 3) := by decide +kernel
theorem d_Mo_begin_97 : decode c_Mo_begin 97 = .ok (.iload 4, 2) := by decide +kernel
theorem d_Mo_begin_99 : decode c_Mo_begin 99 = .ok (.aload_n 0, 1) := by decide +kernel
theorem d_Mo_begin_100 : decode c_Mo_begin 100 = .ok (.getfield 69, 3) := by decide +kernel
theorem d_Mo_begin_103 : decode c_Mo_begin 103 = .ok (.iload_n 2, 1) := by decide +kernel
theorem d_Mo_begin_104 : decode c_Mo_begin 104 = .ok (.iconst 1, 1) := by decide +kernel
theorem d_Mo_begin_105 : decode c_Mo_begin 105 = .ok (.isub, 1) := by decide +kernel
theorem d_Mo_begin_106 : decode c_Mo_begin 106 = .ok (.iaload, 1) := by decide +kernel
theorem d_Mo_begin_107 : decode c_Mo_begin 107 = .ok (.if_icmp .ge 56, 3) := by decide +kernel
theorem d_Mo_begin_110 : decode c_Mo_begin 110 = .ok (.aload_n 0, 1) := by decide +kernel
theorem d_Mo_begin_111 : decode c_Mo_begin 111 = .ok (.getfield 75, 3) := by decide +kernel
theorem d_Mo_begin_114 : decode c_Mo_begin 114 = .ok (.bipush 64, 2) := by decide +kernel
theorem d_Mo_begin_116 : decode c_Mo_begin 116 = .ok (.iload_n 2, 1) := by decide +kernel
theorem d_Mo_begin_117 : decode c_Mo_begin 117 = .ok (.imul, 1) := by decide +kernel
theorem d_Mo_begin_118 : decode c_Mo_begin 118 = .ok (.bipush 64, 2) := by decide +kernel
theorem d_Mo_begin_120 : decode c_Mo_begin 120 = .ok (.isub, 1) := by decide +kernel
theorem d_Mo_begin_121 : decode c_Mo_begin 121 = .ok (.iload 4, 2) := by decide +kernel
theorem d_Mo_begin_123 : decode c_Mo_begin 123 = .ok (.iadd, 1) := by decide +kernel
theorem d_Mo_begin_124 : decode c_Mo_begin 124 = .ok (.iaload, 1) := by decide +kernel
theorem d_Mo_begin_125 : decode c_Mo_begin 125 = .ok (.aload_n 0, 1) := by decide +kernel
theorem d_Mo_begin_126 : decode c_Mo_begin 126 = .ok (.getfield 78, 3) := by decide +kernel
theorem d_Mo_begin_129 : decode c_Mo_begin 129 = .ok (.iload_n 2, 1) := by decide +kernel
theorem d_Mo_begin_130 : decode c_Mo_begin 130 = .ok (.iconst 1, 1) := by decide +kernel
theorem d_Mo_begin_131 : decode c_Mo_begin 131 = .ok (.isub, 1) := by decide +kernel
theorem d_Mo_begin_132 : decode c_Mo_begin 132 = .ok (.iaload, 1) := by decide +kernel
theorem d_Mo_begin_133 : decode c_Mo_begin 133 = .ok (.if_icmp .ne 24, 3) := by decide +kernel
theorem d_Mo_begin_136 : decode c_Mo_begin 136 = .ok (.aload_n 0, 1) := by decide +kernel
theorem d_Mo_begin_137 : decode c_Mo_begin 137 = .ok (.iload_n 2, 1) := by decide +kernel
theorem d_Mo_begin_138 : decode c_Mo_begin 138 = .ok (.aload_n 0, 1) := by decide +kernel
theorem d_Mo_begin_139 : decode c_Mo_begin 139 = .ok (.getfield 72, 3) := by decide +kernel
theorem d_Mo_begin_142 : decode c_Mo_begin 142 = .ok (.bipush 64, 2) := by decide +kernel
theorem d_Mo_begin_144 : decode c_Mo_begin 144 = .ok (.iload_n 2, 1) := by decide +kernel
theorem d_Mo_begin_145 : decode c_Mo_begin 145 = .ok (.imul, 1) := by decide +kernel
theorem d_Mo_begin_146 : decode c_Mo_begin 146 = .ok (.bipush 64, 2) := by decide +kernel
theorem d_Mo_begin_148 : decode c_Mo_begin 148 = .ok (.isub, 1) := by decide +kernel
theorem d_Mo_begin_149 : decode c_Mo_begin 149 = .ok (.iload 4, 2) := by decide +kernel
theorem d_Mo_begin_151 : decode c_Mo_begin 151 = .ok (.iadd, 1) := by decide +kernel
theorem d_Mo_begin_152 : decode c_Mo_begin 152 = .ok (.iaload, 1) := by decide +kernel
theorem d_Mo_begin_153 : decode c_Mo_begin 153 = .ok (.invokevirtual 163, 3) := by decide +kernel
theorem d_Mo_begin_156 : decode c_Mo_begin 156 = .ok (.istore_n 3, 1) := by decide +kernel
theorem d_Mo_begin_157 : decode c_Mo_begin 157 = .ok (.iinc 4 1, 3) := by decide +kernel
theorem d_Mo_begin_160 : decode c_Mo_begin 160 = .ok (.goto (-71), 3) := by decide +kernel
theorem d_Mo_begin_163 : decode c_Mo_begin 163 = .ok (.iload_n 3, 1) := by decide +kernel
theorem d_Mo_begin_164 : decode c_Mo_begin 164 = .ok (.ifCond .eq 11, 3) := by decide +kernel
theorem d_Mo_begin_167 : decode c_Mo_begin 167 = .ok (.aload_n 0, 1) := by decide +kernel
theorem d_Mo_begin_168 : decode c_Mo_begin 168 = .ok (.iconst 2, 1) := by decide +kernel
theorem d_Mo_begin_169 : decode c_Mo_begin 169 = .ok (.invokevirtual 166, 3) := by decide +kernel
theorem d_Mo_begin_172 : decode c_Mo_begin 172 = .ok (.goto 5, 3) := by decide +kernel
theorem d_Mo_begin_175 : decode c_Mo_begin 175 = .ok (.bipush (-4), 2) := by decide +kernel
theorem d_Mo_begin_177 : decode c_Mo_begin 177 = .ok (.ireturn, 1) := by decide +kernel
theorem d_Mo_say_0 : decode c_Mo_say 0 = .ok (.aload_n 0, 1) := by decide +kernel
theorem d_Mo_say_1 : decode c_Mo_say 1 = .ok (.getfield 169, 3) := by decide +kernel
theorem d_Mo_say_4 : decode c_Mo_say 4 = .ok (.bipush 120, 2) := by decide +kernel
theorem d_Mo_say_6 : decode c_Mo_say 6 = .ok (.if_icmp .ne 6, 3) := by decide +kernel
theorem d_Mo_say_9 : decode c_Mo_say 9 = .ok (.bipush (-5), 2) := by decide +kernel
theorem d_Mo_say_11 : decode c_Mo_say 11 = .ok (.ireturn, 1) := by decide +kernel
theorem d_Mo_say_12 : decode c_Mo_say 12 = .ok (.aload_n 0, 1) := by decide +kernel
theorem d_Mo_say_13 : decode c_Mo_say 13 = .ok (.dup, 1) := by decide +kernel
theorem d_Mo_say_14 : decode c_Mo_say 14 = .ok (.getfield 169, 3) := by decide +kernel
theorem d_Mo_say_17 : decode c_Mo_say 17 = .ok (.iconst 1, 1) := by decide +kernel
theorem d_Mo_say_18 : decode c_Mo_say 18 = .ok (.iadd, 1) := by decide +kernel
theorem d_Mo_say_19 : decode c_Mo_say 19 = .ok (.putfield 169, 3) := by decide +kernel
theorem d_Mo_say_22 : decode c_Mo_say 22 = .ok (.aload_n 0, 1) := by decide +kernel
theorem d_Mo_say_23 : decode c_Mo_say 23 = .ok (.getfield 90, 3) := by decide +kernel
theorem d_Mo_say_26 : decode c_Mo_say 26 = .ok (.aload_n 0, 1) := by decide +kernel
theorem d_Mo_say_27 : decode c_Mo_say 27 = .ok (.getfield 160, 3) := by decide +kernel
theorem d_Mo_say_30 : decode c_Mo_say 30 = .ok (.iload_n 1, 1) := by decide +kernel
theorem d_Mo_say_31 : decode c_Mo_say 31 = .ok (.iastore, 1) := by decide +kernel
theorem d_Mo_say_32 : decode c_Mo_say 32 = .ok (.aload_n 0, 1) := by decide +kernel
theorem d_Mo_say_33 : decode c_Mo_say 33 = .ok (.dup, 1) := by decide +kernel
theorem d_Mo_say_34 : decode c_Mo_say 34 = .ok (.getfield 160, 3) := by decide +kernel
theorem d_Mo_say_37 : decode c_Mo_say 37 = .ok (.iconst 1, 1) := by decide +kernel
theorem d_Mo_say_38 : decode c_Mo_say 38 = .ok (.iadd, 1) := by decide +kernel
theorem d_Mo_say_39 : decode c_Mo_say 39 = .ok (.putfield 160, 3) := by decide +kernel
theorem d_Mo_say_42 : decode c_Mo_say 42 = .ok (.iconst 0, 1) := by decide +kernel
theorem d_Mo_say_43 : decode c_Mo_say 43 = .ok (.ireturn, 1) := by decide +kernel
theorem d_Mo_entry_0 : decode c_Mo_entry 0 = .ok (.bipush 10, 2) := by decide +kernel
theorem d_Mo_entry_2 : decode c_Mo_entry 2 = .ok (.iload_n 1, 1) := by decide +kernel
theorem d_Mo_entry_3 : decode c_Mo_entry 3 = .ok (.imul, 1) := by decide +kernel
theorem d_Mo_entry_4 : decode c_Mo_entry 4 = .ok (.aload_n 0, 1) := by decide +kernel
theorem d_Mo_entry_5 : decode c_Mo_entry 5 = .ok (.getfield 78, 3) := by decide +kernel
theorem d_Mo_entry_8 : decode c_Mo_entry 8 = .ok (.iload_n 1, 1) := by decide +kernel
theorem d_Mo_entry_9 : decode c_Mo_entry 9 = .ok (.iaload, 1) := by decide +kernel
theorem d_Mo_entry_10 : decode c_Mo_entry 10 = .ok (.iadd, 1) := by decide +kernel
theorem d_Mo_entry_11 : decode c_Mo_entry 11 = .ok (.ireturn, 1) := by decide +kernel
theorem d_Mo_kindAt_0 : decode c_Mo_kindAt 0 = .ok (.aload_n 0, 1) := by decide +kernel
theorem d_Mo_kindAt_1 : decode c_Mo_kindAt 1 = .ok (.aload_n 0, 1) := by decide +kernel
theorem d_Mo_kindAt_2 : decode c_Mo_kindAt 2 = .ok (.getfield 54, 3) := by decide +kernel
theorem d_Mo_kindAt_5 : decode c_Mo_kindAt 5 = .ok (.iload_n 1, 1) := by decide +kernel
theorem d_Mo_kindAt_6 : decode c_Mo_kindAt 6 = .ok (.iaload, 1) := by decide +kernel
theorem d_Mo_kindAt_7 : decode c_Mo_kindAt 7 = .ok (.aload_n 0, 1) := by decide +kernel
theorem d_Mo_kindAt_8 : decode c_Mo_kindAt 8 = .ok (.getfield 66, 3) := by decide +kernel
theorem d_Mo_kindAt_11 : decode c_Mo_kindAt 11 = .ok (.aload_n 0, 1) := by decide +kernel
theorem d_Mo_kindAt_12 : decode c_Mo_kindAt 12 = .ok (.iload_n 1, 1) := by decide +kernel
theorem d_Mo_kindAt_13 : decode c_Mo_kindAt 13 = .ok (.invokevirtual 172, 3) := by decide +kernel
theorem d_Mo_kindAt_16 : decode c_Mo_kindAt 16 = .ok (.iaload, 1) := by decide +kernel
theorem d_Mo_kindAt_17 : decode c_Mo_kindAt 17 = .ok (.iconst 0, 1) := by decide +kernel
theorem d_Mo_kindAt_18 : decode c_Mo_kindAt 18 = .ok (.invokevirtual 113, 3) := by decide +kernel
theorem d_Mo_kindAt_21 : decode c_Mo_kindAt 21 = .ok (.ireturn, 1) := by decide +kernel
theorem d_Mo_note_0 : decode c_Mo_note 0 = .ok (.aload_n 0, 1) := by decide +kernel
theorem d_Mo_note_1 : decode c_Mo_note 1 = .ok (.getfield 175, 3) := by decide +kernel
theorem d_Mo_note_4 : decode c_Mo_note 4 = .ok (.ifCond .ne 7, 3) := by decide +kernel
theorem d_Mo_note_7 : decode c_Mo_note 7 = .ok (.iconst 0, 1) := by decide +kernel
theorem d_Mo_note_8 : decode c_Mo_note 8 = .ok (.goto 14, 3) := by decide +kernel
theorem d_Mo_note_11 : decode c_Mo_note 11 = .ok (.aload_n 0, 1) := by decide +kernel
theorem d_Mo_note_12 : decode c_Mo_note 12 = .ok (.getfield 93, 3) := by decide +kernel
theorem d_Mo_note_15 : decode c_Mo_note 15 = .ok (.aload_n 0, 1) := by decide +kernel
theorem d_Mo_note_16 : decode c_Mo_note 16 = .ok (.getfield 175, 3) := by decide +kernel
theorem d_Mo_note_19 : decode c_Mo_note 19 = .ok (.iconst 1, 1) := by decide +kernel
theorem d_Mo_note_20 : decode c_Mo_note 20 = .ok (.isub, 1) := by decide +kernel
theorem d_Mo_note_21 : decode c_Mo_note 21 = .ok (.iaload, 1) := by decide +kernel
theorem d_Mo_note_22 : decode c_Mo_note 22 = .ok (.istore_n 1, 1) := by decide +kernel
theorem d_Mo_note_23 : decode c_Mo_note 23 = .ok (.iconst 0, 1) := by decide +kernel
theorem d_Mo_note_24 : decode c_Mo_note 24 = .ok (.istore_n 2, 1) := by decide +kernel
theorem d_Mo_note_25 : decode c_Mo_note 25 = .ok (.iload_n 2, 1) := by decide +kernel
theorem d_Mo_note_26 : decode c_Mo_note 26 = .ok (.aload_n 0, 1) := by decide +kernel
theorem d_Mo_note_27 : decode c_Mo_note 27 = .ok (.getfield 157, 3) := by decide +kernel
theorem d_Mo_note_30 : decode c_Mo_note 30 = .ok (.if_icmp .ge 65, 3) := by decide +kernel
theorem d_Mo_note_33 : decode c_Mo_note 33 = .ok (.aload_n 0, 1) := by decide +kernel
theorem d_Mo_note_34 : decode c_Mo_note 34 = .ok (.getfield 96, 3) := by decide +kernel
theorem d_Mo_note_37 : decode c_Mo_note 37 = .ok (.iload_n 1, 1) := by decide +kernel
theorem d_Mo_note_38 : decode c_Mo_note 38 = .ok (.aload_n 0, 1) := by decide +kernel
theorem d_Mo_note_39 : decode c_Mo_note 39 = .ok (.getfield 60, 3) := by decide +kernel
theorem d_Mo_note_42 : decode c_Mo_note 42 = .ok (.aload_n 0, 1) := by decide +kernel
theorem d_Mo_note_43 : decode c_Mo_note 43 = .ok (.iload_n 2, 1) := by decide +kernel
theorem d_Mo_note_44 : decode c_Mo_note 44 = .ok (.invokevirtual 172, 3) := by decide +kernel
theorem d_Mo_note_47 : decode c_Mo_note 47 = .ok (.iaload, 1) := by decide +kernel
theorem d_Mo_note_48 : decode c_Mo_note 48 = .ok (.iastore, 1) := by decide +kernel
theorem d_Mo_note_49 : decode c_Mo_note 49 = .ok (.iinc 1 1, 3) := by decide +kernel
theorem d_Mo_note_52 : decode c_Mo_note 52 = .ok (.iload_n 2, 1) := by decide +kernel
theorem d_Mo_note_53 : decode c_Mo_note 53 = .ok (.iconst 1, 1) := by decide +kernel
theorem d_Mo_note_54 : decode c_Mo_note 54 = .ok (.iadd, 1) := by decide +kernel
theorem d_Mo_note_55 : decode c_Mo_note 55 = .ok (.aload_n 0, 1) := by decide +kernel
theorem d_Mo_note_56 : decode c_Mo_note 56 = .ok (.getfield 157, 3) := by decide +kernel
theorem d_Mo_note_59 : decode c_Mo_note 59 = .ok (.if_icmp .ge 30, 3) := by decide +kernel
theorem d_Mo_note_62 : decode c_Mo_note 62 = .ok (.aload_n 0, 1) := by decide +kernel
theorem d_Mo_note_63 : decode c_Mo_note 63 = .ok (.iload_n 2, 1) := by decide +kernel
theorem d_Mo_note_64 : decode c_Mo_note 64 = .ok (.invokevirtual 178, 3) := by decide +kernel
theorem d_Mo_note_67 : decode c_Mo_note 67 = .ok (.iconst 2, 1) := by decide +kernel
theorem d_Mo_note_68 : decode c_Mo_note 68 = .ok (.if_icmp .ne 21, 3) := by decide +kernel
theorem d_Mo_note_71 : decode c_Mo_note 71 = .ok (.aload_n 0, 1) := by decide +kernel
theorem d_Mo_note_72 : decode c_Mo_note 72 = .ok (.getfield 96, 3) := by decide +kernel
theorem d_Mo_note_75 : decode c_Mo_note 75 = .ok (.iload_n 1, 1) := by decide +kernel
theorem d_Mo_note_76 : decode c_Mo_note 76 = .ok (.bipush 10, 2) := by decide +kernel
theorem d_Mo_note_78 : decode c_Mo_note 78 = .ok (.aload_n 0, 1) := by decide +kernel
theorem d_Mo_note_79 : decode c_Mo_note 79 = .ok (.getfield 81, 3) := by decide +kernel
theorem d_Mo_note_82 : decode c_Mo_note 82 = .ok (.iload_n 2, 1) := by decide +kernel
theorem d_Mo_note_83 : decode c_Mo_note 83 = .ok (.iaload, 1) := by decide +kernel
theorem d_Mo_note_84 : decode c_Mo_note 84 = .ok (.iadd, 1) := by decide +kernel
theorem d_Mo_note_85 : decode c_Mo_note 85 = .ok (.iastore, 1) := by decide +kernel
theorem d_Mo_note_86 : decode c_Mo_note 86 = .ok (.iinc 1 1, 3) := by decide +kernel
theorem d_Mo_note_89 : decode c_Mo_note 89 = .ok (.iinc 2 1, 3) := by decide +kernel
theorem d_Mo_note_92 : decode c_Mo_note 92 = .ok (.goto (-67), 3) := by decide +kernel
theorem d_Mo_note_95 : decode c_Mo_note 95 = .ok (.aload_n 0, 1) := by decide +kernel
theorem d_Mo_note_96 : decode c_Mo_note 96 = .ok (.getfield 93, 3) := by decide +kernel
theorem d_Mo_note_99 : decode c_Mo_note 99 = .ok (.aload_n 0, 1) := by decide +kernel
theorem d_Mo_note_100 : decode c_Mo_note 100 = .ok (.getfield 175, 3) := by decide +kernel
theorem d_Mo_note_103 : decode c_Mo_note 103 = .ok (.iload_n 1, 1) := by decide +kernel
theorem d_Mo_note_104 : decode c_Mo_note 104 = .ok (.iastore, 1) := by decide +kernel
theorem d_Mo_note_105 : decode c_Mo_note 105 = .ok (.aload_n 0, 1) := by decide +kernel
theorem d_Mo_note_106 : decode c_Mo_note 106 = .ok (.dup, 1) := by decide +kernel
theorem d_Mo_note_107 : decode c_Mo_note 107 = .ok (.getfield 175, 3) := by decide +kernel
theorem d_Mo_note_110 : decode c_Mo_note 110 = .ok (.iconst 1, 1) := by decide +kernel
theorem d_Mo_note_111 : decode c_Mo_note 111 = .ok (.iadd, 1) := by decide +kernel
theorem d_Mo_note_112 : decode c_Mo_note 112 = .ok (.putfield 175, 3) := by decide +kernel
theorem d_Mo_note_115 : decode c_Mo_note 115 = .ok (.return_, 1) := by decide +kernel
theorem d_Mo_nothing_0 : decode c_Mo_nothing 0 = .ok (.aload_n 0, 1) := by decide +kernel
theorem d_Mo_nothing_1 : decode c_Mo_nothing 1 = .ok (.aload_n 0, 1) := by decide +kernel
theorem d_Mo_nothing_2 : decode c_Mo_nothing 2 = .ok (.getfield 54, 3) := by decide +kernel
theorem d_Mo_nothing_5 : decode c_Mo_nothing 5 = .ok (.iload_n 1, 1) := by decide +kernel
theorem d_Mo_nothing_6 : decode c_Mo_nothing 6 = .ok (.iaload, 1) := by decide +kernel
theorem d_Mo_nothing_7 : decode c_Mo_nothing 7 = .ok (.aload_n 0, 1) := by decide +kernel
theorem d_Mo_nothing_8 : decode c_Mo_nothing 8 = .ok (.getfield 66, 3) := by decide +kernel
theorem d_Mo_nothing_11 : decode c_Mo_nothing 11 = .ok (.aload_n 0, 1) := by decide +kernel
theorem d_Mo_nothing_12 : decode c_Mo_nothing 12 = .ok (.iload_n 1, 1) := by decide +kernel
theorem d_Mo_nothing_13 : decode c_Mo_nothing 13 = .ok (.invokevirtual 172, 3) := by decide +kernel
theorem d_Mo_nothing_16 : decode c_Mo_nothing 16 = .ok (.iaload, 1) := by decide +kernel
theorem d_Mo_nothing_17 : decode c_Mo_nothing 17 = .ok (.iconst 2, 1) := by decide +kernel
theorem d_Mo_nothing_18 : decode c_Mo_nothing 18 = .ok (.invokevirtual 113, 3) := by decide +kernel
theorem d_Mo_nothing_21 : decode c_Mo_nothing 21 = .ok (.ifCond .ne 4, 3) := by decide +kernel
theorem d_Mo_nothing_24 : decode c_Mo_nothing 24 = .ok (.return_, 1) := by decide +kernel
theorem d_Mo_nothing_25 : decode c_Mo_nothing 25 = .ok (.aload_n 0, 1) := by decide +kernel
theorem d_Mo_nothing_26 : decode c_Mo_nothing 26 = .ok (.getfield 87, 3) := by decide +kernel
theorem d_Mo_nothing_29 : decode c_Mo_nothing 29 = .ok (.iload_n 1, 1) := by decide +kernel
theorem d_Mo_nothing_30 : decode c_Mo_nothing 30 = .ok (.iconst 1, 1) := by decide +kernel
theorem d_Mo_nothing_31 : decode c_Mo_nothing 31 = .ok (.bastore, 1) := by decide +kernel
theorem d_Mo_nothing_32 : decode c_Mo_nothing 32 = .ok (.iload_n 2, 1) := by decide +kernel
theorem d_Mo_nothing_33 : decode c_Mo_nothing 33 = .ok (.ifCond .eq 7, 3) := by decide +kernel
theorem d_Mo_nothing_36 : decode c_Mo_nothing 36 = .ok (.aload_n 0, 1) := by decide +kernel
theorem d_Mo_nothing_37 : decode c_Mo_nothing 37 = .ok (.invokevirtual 181, 3) := by decide +kernel
theorem d_Mo_nothing_40 : decode c_Mo_nothing 40 = .ok (.return_, 1) := by decide +kernel
theorem d_Mo_endObject_0 : decode c_Mo_endObject 0 = .ok (.aload_n 0, 1) := by decide +kernel
theorem d_Mo_endObject_1 : decode c_Mo_endObject 1 = .ok (.iconst 3, 1) := by decide +kernel
theorem d_Mo_endObject_2 : decode c_Mo_endObject 2 = .ok (.invokevirtual 166, 3) := by decide +kernel
theorem d_Mo_endObject_5 : decode c_Mo_endObject 5 = .ok (.istore_n 1, 1) := by decide +kernel
theorem d_Mo_endObject_6 : decode c_Mo_endObject 6 = .ok (.aload_n 0, 1) := by decide +kernel
theorem d_Mo_endObject_7 : decode c_Mo_endObject 7 = .ok (.dup, 1) := by decide +kernel
theorem d_Mo_endObject_8 : decode c_Mo_endObject 8 = .ok (.getfield 157, 3) := by decide +kernel
theorem d_Mo_endObject_11 : decode c_Mo_endObject 11 = .ok (.iconst 1, 1) := by decide +kernel
theorem d_Mo_endObject_12 : decode c_Mo_endObject 12 = .ok (.isub, 1) := by decide +kernel
theorem d_Mo_endObject_13 : decode c_Mo_endObject 13 = .ok (.putfield 157, 3) := by decide +kernel
theorem d_Mo_endObject_16 : decode c_Mo_endObject 16 = .ok (.aload_n 0, 1) := by decide +kernel
theorem d_Mo_endObject_17 : decode c_Mo_endObject 17 = .ok (.getfield 157, 3) := by decide +kernel
theorem d_Mo_endObject_20 : decode c_Mo_endObject 20 = .ok (.istore_n 2, 1) := by decide +kernel
theorem d_Mo_endObject_21 : decode c_Mo_endObject 21 = .ok (.iload_n 1, 1) := by decide +kernel
theorem d_Mo_endObject_22 : decode c_Mo_endObject 22 = .ok (.ifCond .ne 42, 3) := by decide +kernel
theorem d_Mo_endObject_25 : decode c_Mo_endObject 25 = .ok (.aload_n 0, 1) := by decide +kernel
theorem d_Mo_endObject_26 : decode c_Mo_endObject 26 = .ok (.getfield 87, 3) := by decide +kernel
theorem d_Mo_endObject_29 : decode c_Mo_endObject 29 = .ok (.iload_n 2, 1) := by decide +kernel
theorem d_Mo_endObject_30 : decode c_Mo_endObject 30 = .ok (.baload, 1) := by decide +kernel
theorem d_Mo_endObject_31 : decode c_Mo_endObject 31 = .ok (.ifCond .eq 33, 3) := by decide +kernel
theorem d_Mo_endObject_34 : decode c_Mo_endObject 34 = .ok (.aload_n 0, 1) := by decide +kernel
theorem d_Mo_endObject_35 : decode c_Mo_endObject 35 = .ok (.aload_n 0, 1) := by decide +kernel
theorem d_Mo_endObject_36 : decode c_Mo_endObject 36 = .ok (.getfield 84, 3) := by decide +kernel
theorem d_Mo_endObject_39 : decode c_Mo_endObject 39 = .ok (.iload_n 2, 1) := by decide +kernel
theorem d_Mo_endObject_40 : decode c_Mo_endObject 40 = .ok (.iaload, 1) := by decide +kernel
theorem d_Mo_endObject_41 : decode c_Mo_endObject 41 = .ok (.putfield 160, 3) := by decide +kernel
theorem d_Mo_endObject_44 : decode c_Mo_endObject 44 = .ok (.aload_n 0, 1) := by decide +kernel
theorem d_Mo_endObject_45 : decode c_Mo_endObject 45 = .ok (.getfield 90, 3) := by decide +kernel
theorem d_Mo_endObject_48 : decode c_Mo_endObject 48 = .ok (.aload_n 0, 1) := by decide +kernel
theorem d_Mo_endObject_49 : decode c_Mo_endObject 49 = .ok (.getfield 160, 3) := by decide +kernel
theorem d_Mo_endObject_52 : decode c_Mo_endObject 52 = .ok (.iconst 1, 1) := by decide +kernel
theorem d_Mo_endObject_53 : decode c_Mo_endObject 53 = .ok (.iastore, 1) := by decide +kernel
theorem d_Mo_endObject_54 : decode c_Mo_endObject 54 = .ok (.aload_n 0, 1) := by decide +kernel
theorem d_Mo_endObject_55 : decode c_Mo_endObject 55 = .ok (.dup, 1) := by decide +kernel
theorem d_Mo_endObject_56 : decode c_Mo_endObject 56 = .ok (.getfield 160, 3) := by decide +kernel
theorem d_Mo_endObject_59 : decode c_Mo_endObject 59 = .ok (.iconst 1, 1) := by decide +kernel
theorem d_Mo_endObject_60 : decode c_Mo_endObject 60 = .ok (.iadd, 1) := by decide +kernel
theorem d_Mo_endObject_61 : decode c_Mo_endObject 61 = .ok (.putfield 160, 3) := by decide +kernel
theorem d_Mo_endObject_64 : decode c_Mo_endObject 64 = .ok (.iload_n 2, 1) := by decide +kernel
theorem d_Mo_endObject_65 : decode c_Mo_endObject 65 = .ok (.ifCond .ne 5, 3) := by decide +kernel
theorem d_Mo_endObject_68 : decode c_Mo_endObject 68 = .ok (.iload_n 1, 1) := by decide +kernel
theorem d_Mo_endObject_69 : decode c_Mo_endObject 69 = .ok (.ireturn, 1) := by decide +kernel
theorem d_Mo_endObject_70 : decode c_Mo_endObject 70 = .ok (.aload_n 0, 1) := by decide +kernel
theorem d_Mo_endObject_71 : decode c_Mo_endObject 71 = .ok (.getfield 87, 3) := by decide +kernel
theorem d_Mo_endObject_74 : decode c_Mo_endObject 74 = .ok (.iload_n 2, 1) := by decide +kernel
theorem d_Mo_endObject_75 : decode c_Mo_endObject 75 = .ok (.baload, 1) := by decide +kernel
theorem d_Mo_endObject_76 : decode c_Mo_endObject 76 = .ok (.ifCond .eq 11, 3) := by decide +kernel
theorem d_Mo_endObject_79 : decode c_Mo_endObject 79 = .ok (.aload_n 0, 1) := by decide +kernel
theorem d_Mo_endObject_80 : decode c_Mo_endObject 80 = .ok (.iload_n 2, 1) := by decide +kernel
theorem d_Mo_endObject_81 : decode c_Mo_endObject 81 = .ok (.iconst 1, 1) := by decide +kernel
theorem d_Mo_endObject_82 : decode c_Mo_endObject 82 = .ok (.isub, 1) := by decide +kernel
theorem d_Mo_endObject_83 : decode c_Mo_endObject 83 = .ok (.iconst 0, 1) := by decide +kernel
theorem d_Mo_endObject_84 : decode c_Mo_endObject 84 = .ok (.invokevirtual 184, 3) := by decide +kernel
theorem d_Mo_endObject_87 : decode c_Mo_endObject 87 = .ok (.aload_n 0, 1) := by decide +kernel
theorem d_Mo_endObject_88 : decode c_Mo_endObject 88 = .ok (.getfield 81, 3) := by decide +kernel
theorem d_Mo_endObject_91 : decode c_Mo_endObject 91 = .ok (.iload_n 2, 1) := by decide +kernel
theorem d_Mo_endObject_92 : decode c_Mo_endObject 92 = .ok (.iconst 1, 1) := by decide +kernel
theorem d_Mo_endObject_93 : decode c_Mo_endObject 93 = .ok (.isub, 1) := by decide +kernel
theorem d_Mo_endObject_94 : decode c_Mo_endObject 94 = .ok (.iaload, 1) := by decide +kernel
theorem d_Mo_endObject_95 : decode c_Mo_endObject 95 = .ok (.ifCond .lt 18, 3) := by decide +kernel
theorem d_Mo_endObject_98 : decode c_Mo_endObject 98 = .ok (.aload_n 0, 1) := by decide +kernel
theorem d_Mo_endObject_99 : decode c_Mo_endObject 99 = .ok (.getfield 81, 3) := by decide +kernel
theorem d_Mo_endObject_102 : decode c_Mo_endObject 102 = .ok (.iload_n 2, 1) := by decide +kernel
theorem d_Mo_endObject_103 : decode c_Mo_endObject 103 = .ok (.iconst 1, 1) := by decide +kernel
theorem d_Mo_endObject_104 : decode c_Mo_endObject 104 = .ok (.isub, 1) := by decide +kernel
theorem d_Mo_endObject_105 : decode c_Mo_endObject 105 = .ok (.dup2, 1) := by decide +kernel
theorem d_Mo_endObject_106 : decode c_Mo_endObject 106 = .ok (.iaload, 1) := by decide +kernel
theorem d_Mo_endObject_107 : decode c_Mo_endObject 107 = .ok (.iconst 1, 1) := by decide +kernel
theorem d_Mo_endObject_108 : decode c_Mo_endObject 108 = .ok (.iadd, 1) := by decide +kernel
theorem d_Mo_endObject_109 : decode c_Mo_endObject 109 = .ok (.iastore, 1) := by decide +kernel
theorem d_Mo_endObject_110 : decode c_Mo_endObject 110 = .ok (.goto 15, 3) := by decide +kernel
theorem d_Mo_endObject_113 : decode c_Mo_endObject 113 = .ok (.aload_n 0, 1) := by decide +kernel
theorem d_Mo_endObject_114 : decode c_Mo_endObject 114 = .ok (.getfield 78, 3) := by decide +kernel
theorem d_Mo_endObject_117 : decode c_Mo_endObject 117 = .ok (.iload_n 2, 1) := by decide +kernel
theorem d_Mo_endObject_118 : decode c_Mo_endObject 118 = .ok (.iconst 1, 1) := by decide +kernel
theorem d_Mo_endObject_119 : decode c_Mo_endObject 119 = .ok (.isub, 1) := by decide +kernel
theorem d_Mo_endObject_120 : decode c_Mo_endObject 120 = .ok (.dup2, 1) := by decide +kernel
theorem d_Mo_endObject_121 : decode c_Mo_endObject 121 = .ok (.iaload, 1) := by decide +kernel
end
section
theorem d_Mo_endObject_122 : decode c_Mo_endObject 122 = .ok (.iconst 1, 1) := by decide +kernel
theorem d_Mo_endObject_123 : decode c_Mo_endObject 123 = .ok (.iadd, 1) := by decide +kernel
theorem d_Mo_endObject_124 : decode c_Mo_endObject 124 = .ok (.iastore, 1) := by decide +kernel
theorem d_Mo_endObject_125 : decode c_Mo_endObject 125 = .ok (.iload_n 1, 1) := by decide +kernel
theorem d_Mo_endObject_126 : decode c_Mo_endObject 126 = .ok (.ireturn, 1) := by decide +kernel
theorem d_Mo_manyStep_0 : decode c_Mo_manyStep 0 = .ok (.iconst 4, 1) := by decide +kernel
theorem d_Mo_manyStep_1 : decode c_Mo_manyStep 1 = .ok (.aload_n 0, 1) := by decide +kernel
theorem d_Mo_manyStep_2 : decode c_Mo_manyStep 2 = .ok (.getfield 54, 3) := by decide +kernel
theorem d_Mo_manyStep_5 : decode c_Mo_manyStep 5 = .ok (.iload_n 1, 1) := by decide +kernel
theorem d_Mo_manyStep_6 : decode c_Mo_manyStep 6 = .ok (.iaload, 1) := by decide +kernel
theorem d_Mo_manyStep_7 : decode c_Mo_manyStep 7 = .ok (.imul, 1) := by decide +kernel
theorem d_Mo_manyStep_8 : decode c_Mo_manyStep 8 = .ok (.aload_n 0, 1) := by decide +kernel
theorem d_Mo_manyStep_9 : decode c_Mo_manyStep 9 = .ok (.getfield 66, 3) := by decide +kernel
theorem d_Mo_manyStep_12 : decode c_Mo_manyStep 12 = .ok (.aload_n 0, 1) := by decide +kernel
theorem d_Mo_manyStep_13 : decode c_Mo_manyStep 13 = .ok (.iload_n 1, 1) := by decide +kernel
theorem d_Mo_manyStep_14 : decode c_Mo_manyStep 14 = .ok (.invokevirtual 172, 3) := by decide +kernel
theorem d_Mo_manyStep_17 : decode c_Mo_manyStep 17 = .ok (.iaload, 1) := by decide +kernel
theorem d_Mo_manyStep_18 : decode c_Mo_manyStep 18 = .ok (.iadd, 1) := by decide +kernel
theorem d_Mo_manyStep_19 : decode c_Mo_manyStep 19 = .ok (.istore_n 2, 1) := by decide +kernel
theorem d_Mo_manyStep_20 : decode c_Mo_manyStep 20 = .ok (.aload_n 0, 1) := by decide +kernel
theorem d_Mo_manyStep_21 : decode c_Mo_manyStep 21 = .ok (.getfield 81, 3) := by decide +kernel
theorem d_Mo_manyStep_24 : decode c_Mo_manyStep 24 = .ok (.iload_n 1, 1) := by decide +kernel
theorem d_Mo_manyStep_25 : decode c_Mo_manyStep 25 = .ok (.iaload, 1) := by decide +kernel
theorem d_Mo_manyStep_26 : decode c_Mo_manyStep 26 = .ok (.aload_n 0, 1) := by decide +kernel
theorem d_Mo_manyStep_27 : decode c_Mo_manyStep 27 = .ok (.getfield 19, 3) := by decide +kernel
theorem d_Mo_manyStep_30 : decode c_Mo_manyStep 30 = .ok (.iload_n 2, 1) := by decide +kernel
theorem d_Mo_manyStep_31 : decode c_Mo_manyStep 31 = .ok (.iaload, 1) := by decide +kernel
theorem d_Mo_manyStep_32 : decode c_Mo_manyStep 32 = .ok (.if_icmp .ge 23, 3) := by decide +kernel
theorem d_Mo_manyStep_35 : decode c_Mo_manyStep 35 = .ok (.aload_n 0, 1) := by decide +kernel
theorem d_Mo_manyStep_36 : decode c_Mo_manyStep 36 = .ok (.aload_n 0, 1) := by decide +kernel
theorem d_Mo_manyStep_37 : decode c_Mo_manyStep 37 = .ok (.getfield 22, 3) := by decide +kernel
theorem d_Mo_manyStep_40 : decode c_Mo_manyStep 40 = .ok (.iconst 4, 1) := by decide +kernel
theorem d_Mo_manyStep_41 : decode c_Mo_manyStep 41 = .ok (.iload_n 2, 1) := by decide +kernel
theorem d_Mo_manyStep_42 : decode c_Mo_manyStep 42 = .ok (.imul, 1) := by decide +kernel
theorem d_Mo_manyStep_43 : decode c_Mo_manyStep 43 = .ok (.aload_n 0, 1) := by decide +kernel
theorem d_Mo_manyStep_44 : decode c_Mo_manyStep 44 = .ok (.getfield 81, 3) := by decide +kernel
theorem d_Mo_manyStep_47 : decode c_Mo_manyStep 47 = .ok (.iload_n 1, 1) := by decide +kernel
theorem d_Mo_manyStep_48 : decode c_Mo_manyStep 48 = .ok (.iaload, 1) := by decide +kernel
theorem d_Mo_manyStep_49 : decode c_Mo_manyStep 49 = .ok (.iadd, 1) := by decide +kernel
theorem d_Mo_manyStep_50 : decode c_Mo_manyStep 50 = .ok (.iaload, 1) := by decide +kernel
theorem d_Mo_manyStep_51 : decode c_Mo_manyStep 51 = .ok (.invokevirtual 188, 3) := by decide +kernel
theorem d_Mo_manyStep_54 : decode c_Mo_manyStep 54 = .ok (.ireturn, 1) := by decide +kernel
theorem d_Mo_manyStep_55 : decode c_Mo_manyStep 55 = .ok (.aload_n 0, 1) := by decide +kernel
theorem d_Mo_manyStep_56 : decode c_Mo_manyStep 56 = .ok (.getfield 81, 3) := by decide +kernel
theorem d_Mo_manyStep_59 : decode c_Mo_manyStep 59 = .ok (.iload_n 1, 1) := by decide +kernel
theorem d_Mo_manyStep_60 : decode c_Mo_manyStep 60 = .ok (.iconst (-1), 1) := by decide +kernel
theorem d_Mo_manyStep_61 : decode c_Mo_manyStep 61 = .ok (.iastore, 1) := by decide +kernel
theorem d_Mo_manyStep_62 : decode c_Mo_manyStep 62 = .ok (.aload_n 0, 1) := by decide +kernel
theorem d_Mo_manyStep_63 : decode c_Mo_manyStep 63 = .ok (.getfield 78, 3) := by decide +kernel
theorem d_Mo_manyStep_66 : decode c_Mo_manyStep 66 = .ok (.iload_n 1, 1) := by decide +kernel
theorem d_Mo_manyStep_67 : decode c_Mo_manyStep 67 = .ok (.dup2, 1) := by decide +kernel
theorem d_Mo_manyStep_68 : decode c_Mo_manyStep 68 = .ok (.iaload, 1) := by decide +kernel
theorem d_Mo_manyStep_69 : decode c_Mo_manyStep 69 = .ok (.iconst 1, 1) := by decide +kernel
theorem d_Mo_manyStep_70 : decode c_Mo_manyStep 70 = .ok (.iadd, 1) := by decide +kernel
theorem d_Mo_manyStep_71 : decode c_Mo_manyStep 71 = .ok (.iastore, 1) := by decide +kernel
theorem d_Mo_manyStep_72 : decode c_Mo_manyStep 72 = .ok (.aload_n 0, 1) := by decide +kernel
theorem d_Mo_manyStep_73 : decode c_Mo_manyStep 73 = .ok (.iconst 5, 1) := by decide +kernel
theorem d_Mo_manyStep_74 : decode c_Mo_manyStep 74 = .ok (.invokevirtual 166, 3) := by decide +kernel
theorem d_Mo_manyStep_77 : decode c_Mo_manyStep 77 = .ok (.ireturn, 1) := by decide +kernel
theorem d_Mo_plain_0 : decode c_Mo_plain 0 = .ok (.aload_n 0, 1) := by decide +kernel
theorem d_Mo_plain_1 : decode c_Mo_plain 1 = .ok (.getfield 78, 3) := by decide +kernel
theorem d_Mo_plain_4 : decode c_Mo_plain 4 = .ok (.iload_n 1, 1) := by decide +kernel
theorem d_Mo_plain_5 : decode c_Mo_plain 5 = .ok (.dup2, 1) := by decide +kernel
theorem d_Mo_plain_6 : decode c_Mo_plain 6 = .ok (.iaload, 1) := by decide +kernel
theorem d_Mo_plain_7 : decode c_Mo_plain 7 = .ok (.iconst 1, 1) := by decide +kernel
theorem d_Mo_plain_8 : decode c_Mo_plain 8 = .ok (.iadd, 1) := by decide +kernel
theorem d_Mo_plain_9 : decode c_Mo_plain 9 = .ok (.iastore, 1) := by decide +kernel
theorem d_Mo_plain_10 : decode c_Mo_plain 10 = .ok (.aload_n 0, 1) := by decide +kernel
theorem d_Mo_plain_11 : decode c_Mo_plain 11 = .ok (.iload_n 2, 1) := by decide +kernel
theorem d_Mo_plain_12 : decode c_Mo_plain 12 = .ok (.invokevirtual 166, 3) := by decide +kernel
theorem d_Mo_plain_15 : decode c_Mo_plain 15 = .ok (.ireturn, 1) := by decide +kernel
theorem d_Mo_step_0 : decode c_Mo_step 0 = .ok (.aload_n 0, 1) := by decide +kernel
theorem d_Mo_step_1 : decode c_Mo_step 1 = .ok (.getfield 157, 3) := by decide +kernel
theorem d_Mo_step_4 : decode c_Mo_step 4 = .ok (.iconst 1, 1) := by decide +kernel
theorem d_Mo_step_5 : decode c_Mo_step 5 = .ok (.isub, 1) := by decide +kernel
theorem d_Mo_step_6 : decode c_Mo_step 6 = .ok (.istore_n 1, 1) := by decide +kernel
theorem d_Mo_step_7 : decode c_Mo_step 7 = .ok (.aload_n 0, 1) := by decide +kernel
theorem d_Mo_step_8 : decode c_Mo_step 8 = .ok (.getfield 78, 3) := by decide +kernel
theorem d_Mo_step_11 : decode c_Mo_step 11 = .ok (.iload_n 1, 1) := by decide +kernel
theorem d_Mo_step_12 : decode c_Mo_step 12 = .ok (.iaload, 1) := by decide +kernel
theorem d_Mo_step_13 : decode c_Mo_step 13 = .ok (.aload_n 0, 1) := by decide +kernel
theorem d_Mo_step_14 : decode c_Mo_step 14 = .ok (.getfield 57, 3) := by decide +kernel
theorem d_Mo_step_17 : decode c_Mo_step 17 = .ok (.iload_n 1, 1) := by decide +kernel
theorem d_Mo_step_18 : decode c_Mo_step 18 = .ok (.iaload, 1) := by decide +kernel
theorem d_Mo_step_19 : decode c_Mo_step 19 = .ok (.if_icmp .ne 8, 3) := by decide +kernel
theorem d_Mo_step_22 : decode c_Mo_step 22 = .ok (.aload_n 0, 1) := by decide +kernel
theorem d_Mo_step_23 : decode c_Mo_step 23 = .ok (.invokevirtual 191, 3) := by decide +kernel
theorem d_Mo_step_26 : decode c_Mo_step 26 = .ok (.ireturn, 1) := by decide +kernel
theorem d_Mo_step_27 : decode c_Mo_step 27 = .ok (.aload_n 0, 1) := by decide +kernel
theorem d_Mo_step_28 : decode c_Mo_step 28 = .ok (.getfield 81, 3) := by decide +kernel
theorem d_Mo_step_31 : decode c_Mo_step 31 = .ok (.iload_n 1, 1) := by decide +kernel
theorem d_Mo_step_32 : decode c_Mo_step 32 = .ok (.iaload, 1) := by decide +kernel
theorem d_Mo_step_33 : decode c_Mo_step 33 = .ok (.ifCond .lt 9, 3) := by decide +kernel
theorem d_Mo_step_36 : decode c_Mo_step 36 = .ok (.aload_n 0, 1) := by decide +kernel
theorem d_Mo_step_37 : decode c_Mo_step 37 = .ok (.iload_n 1, 1) := by decide +kernel
theorem d_Mo_step_38 : decode c_Mo_step 38 = .ok (.invokevirtual 195, 3) := by decide +kernel
theorem d_Mo_step_41 : decode c_Mo_step 41 = .ok (.ireturn, 1) := by decide +kernel
theorem d_Mo_step_42 : decode c_Mo_step 42 = .ok (.aload_n 0, 1) := by decide +kernel
theorem d_Mo_step_43 : decode c_Mo_step 43 = .ok (.bipush 10, 2) := by decide +kernel
theorem d_Mo_step_45 : decode c_Mo_step 45 = .ok (.aload_n 0, 1) := by decide +kernel
theorem d_Mo_step_46 : decode c_Mo_step 46 = .ok (.getfield 60, 3) := by decide +kernel
theorem d_Mo_step_49 : decode c_Mo_step 49 = .ok (.aload_n 0, 1) := by decide +kernel
theorem d_Mo_step_50 : decode c_Mo_step 50 = .ok (.iload_n 1, 1) := by decide +kernel
theorem d_Mo_step_51 : decode c_Mo_step 51 = .ok (.invokevirtual 172, 3) := by decide +kernel
theorem d_Mo_step_54 : decode c_Mo_step 54 = .ok (.iaload, 1) := by decide +kernel
theorem d_Mo_step_55 : decode c_Mo_step 55 = .ok (.iadd, 1) := by decide +kernel
theorem d_Mo_step_56 : decode c_Mo_step 56 = .ok (.invokevirtual 166, 3) := by decide +kernel
theorem d_Mo_step_59 : decode c_Mo_step 59 = .ok (.istore_n 2, 1) := by decide +kernel
theorem d_Mo_step_60 : decode c_Mo_step 60 = .ok (.iload_n 2, 1) := by decide +kernel
theorem d_Mo_step_61 : decode c_Mo_step 61 = .ok (.ifCond .eq 5, 3) := by decide +kernel
theorem d_Mo_step_64 : decode c_Mo_step 64 = .ok (.iload_n 2, 1) := by decide +kernel
theorem d_Mo_step_65 : decode c_Mo_step 65 = .ok (.ireturn, 1) := by decide +kernel
theorem d_Mo_step_66 : decode c_Mo_step 66 = .ok (.aload_n 0, 1) := by decide +kernel
theorem d_Mo_step_67 : decode c_Mo_step 67 = .ok (.getfield 63, 3) := by decide +kernel
theorem d_Mo_step_70 : decode c_Mo_step 70 = .ok (.aload_n 0, 1) := by decide +kernel
theorem d_Mo_step_71 : decode c_Mo_step 71 = .ok (.iload_n 1, 1) := by decide +kernel
theorem d_Mo_step_72 : decode c_Mo_step 72 = .ok (.invokevirtual 172, 3) := by decide +kernel
theorem d_Mo_step_75 : decode c_Mo_step 75 = .ok (.iaload, 1) := by decide +kernel
theorem d_Mo_step_76 : decode c_Mo_step 76 = .ok (.iconst 2, 1) := by decide +kernel
theorem d_Mo_step_77 : decode c_Mo_step 77 = .ok (.if_icmp .ne 24, 3) := by decide +kernel
theorem d_Mo_step_80 : decode c_Mo_step 80 = .ok (.aload_n 0, 1) := by decide +kernel
theorem d_Mo_step_81 : decode c_Mo_step 81 = .ok (.iload_n 1, 1) := by decide +kernel
theorem d_Mo_step_82 : decode c_Mo_step 82 = .ok (.sipush 2000, 3) := by decide +kernel
theorem d_Mo_step_85 : decode c_Mo_step 85 = .ok (.aload_n 0, 1) := by decide +kernel
theorem d_Mo_step_86 : decode c_Mo_step 86 = .ok (.getfield 16, 3) := by decide +kernel
theorem d_Mo_step_89 : decode c_Mo_step 89 = .ok (.aload_n 0, 1) := by decide +kernel
theorem d_Mo_step_90 : decode c_Mo_step 90 = .ok (.getfield 54, 3) := by decide +kernel
theorem d_Mo_step_93 : decode c_Mo_step 93 = .ok (.iload_n 1, 1) := by decide +kernel
theorem d_Mo_step_94 : decode c_Mo_step 94 = .ok (.iaload, 1) := by decide +kernel
theorem d_Mo_step_95 : decode c_Mo_step 95 = .ok (.iaload, 1) := by decide +kernel
theorem d_Mo_step_96 : decode c_Mo_step 96 = .ok (.iadd, 1) := by decide +kernel
theorem d_Mo_step_97 : decode c_Mo_step 97 = .ok (.invokevirtual 198, 3) := by decide +kernel
theorem d_Mo_step_100 : decode c_Mo_step 100 = .ok (.ireturn, 1) := by decide +kernel
theorem d_Mo_step_101 : decode c_Mo_step 101 = .ok (.iconst 4, 1) := by decide +kernel
theorem d_Mo_step_102 : decode c_Mo_step 102 = .ok (.aload_n 0, 1) := by decide +kernel
theorem d_Mo_step_103 : decode c_Mo_step 103 = .ok (.getfield 54, 3) := by decide +kernel
theorem d_Mo_step_106 : decode c_Mo_step 106 = .ok (.iload_n 1, 1) := by decide +kernel
theorem d_Mo_step_107 : decode c_Mo_step 107 = .ok (.iaload, 1) := by decide +kernel
theorem d_Mo_step_108 : decode c_Mo_step 108 = .ok (.imul, 1) := by decide +kernel
theorem d_Mo_step_109 : decode c_Mo_step 109 = .ok (.aload_n 0, 1) := by decide +kernel
theorem d_Mo_step_110 : decode c_Mo_step 110 = .ok (.getfield 66, 3) := by decide +kernel
theorem d_Mo_step_113 : decode c_Mo_step 113 = .ok (.aload_n 0, 1) := by decide +kernel
theorem d_Mo_step_114 : decode c_Mo_step 114 = .ok (.iload_n 1, 1) := by decide +kernel
theorem d_Mo_step_115 : decode c_Mo_step 115 = .ok (.invokevirtual 172, 3) := by decide +kernel
theorem d_Mo_step_118 : decode c_Mo_step 118 = .ok (.iaload, 1) := by decide +kernel
theorem d_Mo_step_119 : decode c_Mo_step 119 = .ok (.iadd, 1) := by decide +kernel
theorem d_Mo_step_120 : decode c_Mo_step 120 = .ok (.istore_n 3, 1) := by decide +kernel
theorem d_Mo_step_121 : decode c_Mo_step 121 = .ok (.aload_n 0, 1) := by decide +kernel
theorem d_Mo_step_122 : decode c_Mo_step 122 = .ok (.iload_n 1, 1) := by decide +kernel
theorem d_Mo_step_123 : decode c_Mo_step 123 = .ok (.invokevirtual 178, 3) := by decide +kernel
theorem d_Mo_step_126 : decode c_Mo_step 126 = .ok (.iconst 2, 1) := by decide +kernel
theorem d_Mo_step_127 : decode c_Mo_step 127 = .ok (.if_icmp .ne 16, 3) := by decide +kernel
theorem d_Mo_step_130 : decode c_Mo_step 130 = .ok (.aload_n 0, 1) := by decide +kernel
theorem d_Mo_step_131 : decode c_Mo_step 131 = .ok (.getfield 81, 3) := by decide +kernel
theorem d_Mo_step_134 : decode c_Mo_step 134 = .ok (.iload_n 1, 1) := by decide +kernel
theorem d_Mo_step_135 : decode c_Mo_step 135 = .ok (.iconst 0, 1) := by decide +kernel
theorem d_Mo_step_136 : decode c_Mo_step 136 = .ok (.iastore, 1) := by decide +kernel
theorem d_Mo_step_137 : decode c_Mo_step 137 = .ok (.aload_n 0, 1) := by decide +kernel
theorem d_Mo_step_138 : decode c_Mo_step 138 = .ok (.iconst 4, 1) := by decide +kernel
theorem d_Mo_step_139 : decode c_Mo_step 139 = .ok (.invokevirtual 166, 3) := by decide +kernel
theorem d_Mo_step_142 : decode c_Mo_step 142 = .ok (.ireturn, 1) := by decide +kernel
theorem d_Mo_step_143 : decode c_Mo_step 143 = .ok (.aload_n 0, 1) := by decide +kernel
theorem d_Mo_step_144 : decode c_Mo_step 144 = .ok (.getfield 19, 3) := by decide +kernel
theorem d_Mo_step_147 : decode c_Mo_step 147 = .ok (.iload_n 3, 1) := by decide +kernel
theorem d_Mo_step_148 : decode c_Mo_step 148 = .ok (.iaload, 1) := by decide +kernel
theorem d_Mo_step_149 : decode c_Mo_step 149 = .ok (.ifCond .ne 16, 3) := by decide +kernel
theorem d_Mo_step_152 : decode c_Mo_step 152 = .ok (.aload_n 0, 1) := by decide +kernel
theorem d_Mo_step_153 : decode c_Mo_step 153 = .ok (.iload_n 1, 1) := by decide +kernel
theorem d_Mo_step_154 : decode c_Mo_step 154 = .ok (.iconst 1, 1) := by decide +kernel
theorem d_Mo_step_155 : decode c_Mo_step 155 = .ok (.invokevirtual 184, 3) := by decide +kernel
theorem d_Mo_step_158 : decode c_Mo_step 158 = .ok (.aload_n 0, 1) := by decide +kernel
theorem d_Mo_step_159 : decode c_Mo_step 159 = .ok (.iload_n 1, 1) := by decide +kernel
theorem d_Mo_step_160 : decode c_Mo_step 160 = .ok (.iconst 1, 1) := by decide +kernel
theorem d_Mo_step_161 : decode c_Mo_step 161 = .ok (.invokevirtual 198, 3) := by decide +kernel
theorem d_Mo_step_164 : decode c_Mo_step 164 = .ok (.ireturn, 1) := by decide +kernel
theorem d_Mo_step_165 : decode c_Mo_step 165 = .ok (.aload_n 0, 1) := by decide +kernel
theorem d_Mo_step_166 : decode c_Mo_step 166 = .ok (.iload_n 1, 1) := by decide +kernel
theorem d_Mo_step_167 : decode c_Mo_step 167 = .ok (.invokevirtual 178, 3) := by decide +kernel
theorem d_Mo_step_170 : decode c_Mo_step 170 = .ok (.ifCond .ne 23, 3) := by decide +kernel
theorem d_Mo_step_173 : decode c_Mo_step 173 = .ok (.aload_n 0, 1) := by decide +kernel
theorem d_Mo_step_174 : decode c_Mo_step 174 = .ok (.iload_n 1, 1) := by decide +kernel
theorem d_Mo_step_175 : decode c_Mo_step 175 = .ok (.sipush 1000, 3) := by decide +kernel
theorem d_Mo_step_178 : decode c_Mo_step 178 = .ok (.aload_n 0, 1) := by decide +kernel
theorem d_Mo_step_179 : decode c_Mo_step 179 = .ok (.getfield 22, 3) := by decide +kernel
theorem d_Mo_step_182 : decode c_Mo_step 182 = .ok (.iconst 4, 1) := by decide +kernel
theorem d_Mo_step_183 : decode c_Mo_step 183 = .ok (.iload_n 3, 1) := by decide +kernel
theorem d_Mo_step_184 : decode c_Mo_step 184 = .ok (.imul, 1) := by decide +kernel
theorem d_Mo_step_185 : decode c_Mo_step 185 = .ok (.iaload, 1) := by decide +kernel
theorem d_Mo_step_186 : decode c_Mo_step 186 = .ok (.iadd, 1) := by decide +kernel
theorem d_Mo_step_187 : decode c_Mo_step 187 = .ok (.invokevirtual 198, 3) := by decide +kernel
theorem d_Mo_step_190 : decode c_Mo_step 190 = .ok (.goto 15, 3) := by decide +kernel
theorem d_Mo_step_193 : decode c_Mo_step 193 = .ok (.aload_n 0, 1) := by decide +kernel
theorem d_Mo_step_194 : decode c_Mo_step 194 = .ok (.aload_n 0, 1) := by decide +kernel
theorem d_Mo_step_195 : decode c_Mo_step 195 = .ok (.getfield 22, 3) := by decide +kernel
theorem d_Mo_step_198 : decode c_Mo_step 198 = .ok (.iconst 4, 1) := by decide +kernel
theorem d_Mo_step_199 : decode c_Mo_step 199 = .ok (.iload_n 3, 1) := by decide +kernel
theorem d_Mo_step_200 : decode c_Mo_step 200 = .ok (.imul, 1) := by decide +kernel
theorem d_Mo_step_201 : decode c_Mo_step 201 = .ok (.iaload, 1) := by decide +kernel
theorem d_Mo_step_202 : decode c_Mo_step 202 = .ok (.invokevirtual 188, 3) := by decide +kernel
theorem d_Mo_step_205 : decode c_Mo_step 205 = .ok (.ireturn, 1) := by decide +kernel
theorem d_Mo_ask_0 : decode c_Mo_ask 0 = .ok (.iload_n 1, 1) := by decide +kernel
theorem d_Mo_ask_1 : decode c_Mo_ask 1 = .ok (.iconst 1, 1) := by decide +kernel
theorem d_Mo_ask_2 : decode c_Mo_ask 2 = .ok (.aload_n 0, 1) := by decide +kernel
theorem d_Mo_ask_3 : decode c_Mo_ask 3 = .ok (.getfield 102, 3) := by decide +kernel
theorem d_Mo_ask_6 : decode c_Mo_ask 6 = .ok (.invokestatic 105, 3) := by decide +kernel
theorem d_Mo_ask_9 : decode c_Mo_ask 9 = .ok (.ifCond .ne 5, 3) := by decide +kernel
theorem d_Mo_ask_12 : decode c_Mo_ask 12 = .ok (.iconst (-1), 1) := by decide +kernel
theorem d_Mo_ask_13 : decode c_Mo_ask 13 = .ok (.ireturn, 1) := by decide +kernel
theorem d_Mo_ask_14 : decode c_Mo_ask 14 = .ok (.aload_n 0, 1) := by decide +kernel
theorem d_Mo_ask_15 : decode c_Mo_ask 15 = .ok (.iconst 0, 1) := by decide +kernel
theorem d_Mo_ask_16 : decode c_Mo_ask 16 = .ok (.putfield 160, 3) := by decide +kernel
theorem d_Mo_ask_19 : decode c_Mo_ask 19 = .ok (.aload_n 0, 1) := by decide +kernel
theorem d_Mo_ask_20 : decode c_Mo_ask 20 = .ok (.iconst 0, 1) := by decide +kernel
theorem d_Mo_ask_21 : decode c_Mo_ask 21 = .ok (.putfield 175, 3) := by decide +kernel
theorem d_Mo_ask_24 : decode c_Mo_ask 24 = .ok (.aload_n 0, 1) := by decide +kernel
theorem d_Mo_ask_25 : decode c_Mo_ask 25 = .ok (.iconst 0, 1) := by decide +kernel
theorem d_Mo_ask_26 : decode c_Mo_ask 26 = .ok (.putfield 169, 3) := by decide +kernel
theorem d_Mo_ask_29 : decode c_Mo_ask 29 = .ok (.aload_n 0, 1) := by decide +kernel
theorem d_Mo_ask_30 : decode c_Mo_ask 30 = .ok (.iconst 0, 1) := by decide +kernel
theorem d_Mo_ask_31 : decode c_Mo_ask 31 = .ok (.putfield 157, 3) := by decide +kernel
theorem d_Mo_ask_34 : decode c_Mo_ask 34 = .ok (.aload_n 0, 1) := by decide +kernel
theorem d_Mo_ask_35 : decode c_Mo_ask 35 = .ok (.aload_n 0, 1) := by decide +kernel
theorem d_Mo_ask_36 : decode c_Mo_ask 36 = .ok (.getfield 16, 3) := by decide +kernel
theorem d_Mo_ask_39 : decode c_Mo_ask 39 = .ok (.iload_n 1, 1) := by decide +kernel
theorem d_Mo_ask_40 : decode c_Mo_ask 40 = .ok (.iaload, 1) := by decide +kernel
theorem d_Mo_ask_41 : decode c_Mo_ask 41 = .ok (.invokevirtual 144, 3) := by decide +kernel
theorem d_Mo_ask_44 : decode c_Mo_ask 44 = .ok (.ifCond .ne 6, 3) := by decide +kernel
theorem d_Mo_ask_47 : decode c_Mo_ask 47 = .ok (.bipush (-3), 2) := by decide +kernel
theorem d_Mo_ask_49 : decode c_Mo_ask 49 = .ok (.ireturn, 1) := by decide +kernel
theorem d_Mo_ask_50 : decode c_Mo_ask 50 = .ok (.aload_n 0, 1) := by decide +kernel
theorem d_Mo_ask_51 : decode c_Mo_ask 51 = .ok (.iload_n 1, 1) := by decide +kernel
theorem d_Mo_ask_52 : decode c_Mo_ask 52 = .ok (.invokevirtual 188, 3) := by decide +kernel
theorem d_Mo_ask_55 : decode c_Mo_ask 55 = .ok (.istore_n 2, 1) := by decide +kernel
theorem d_Mo_ask_56 : decode c_Mo_ask 56 = .ok (.iload_n 2, 1) := by decide +kernel
theorem d_Mo_ask_57 : decode c_Mo_ask 57 = .ok (.ifCond .ne 18, 3) := by decide +kernel
theorem d_Mo_ask_60 : decode c_Mo_ask 60 = .ok (.aload_n 0, 1) := by decide +kernel
theorem d_Mo_ask_61 : decode c_Mo_ask 61 = .ok (.getfield 157, 3) := by decide +kernel
theorem d_Mo_ask_64 : decode c_Mo_ask 64 = .ok (.ifCond .le 11, 3) := by decide +kernel
theorem d_Mo_ask_67 : decode c_Mo_ask 67 = .ok (.aload_n 0, 1) := by decide +kernel
theorem d_Mo_ask_68 : decode c_Mo_ask 68 = .ok (.invokevirtual 202, 3) := by decide +kernel
theorem d_Mo_ask_71 : decode c_Mo_ask 71 = .ok (.istore_n 2, 1) := by decide +kernel
theorem d_Mo_ask_72 : decode c_Mo_ask 72 = .ok (.goto (-16), 3) := by decide +kernel
theorem d_Mo_ask_75 : decode c_Mo_ask 75 = .ok (.iload_n 2, 1) := by decide +kernel
theorem d_Mo_ask_76 : decode c_Mo_ask 76 = .ok (.ifCond .ne 8, 3) := by decide +kernel
theorem d_Mo_ask_79 : decode c_Mo_ask 79 = .ok (.aload_n 0, 1) := by decide +kernel
theorem d_Mo_ask_80 : decode c_Mo_ask 80 = .ok (.getfield 160, 3) := by decide +kernel
theorem d_Mo_ask_83 : decode c_Mo_ask 83 = .ok (.ireturn, 1) := by decide +kernel
theorem d_Mo_ask_84 : decode c_Mo_ask 84 = .ok (.aload_n 0, 1) := by decide +kernel
theorem d_Mo_ask_85 : decode c_Mo_ask 85 = .ok (.iconst 0, 1) := by decide +kernel
theorem d_Mo_ask_86 : decode c_Mo_ask 86 = .ok (.putfield 160, 3) := by decide +kernel
theorem d_Mo_ask_89 : decode c_Mo_ask 89 = .ok (.aload_n 0, 1) := by decide +kernel
theorem d_Mo_ask_90 : decode c_Mo_ask 90 = .ok (.iconst 0, 1) := by decide +kernel
theorem d_Mo_ask_91 : decode c_Mo_ask 91 = .ok (.putfield 175, 3) := by decide +kernel
theorem d_Mo_ask_94 : decode c_Mo_ask 94 = .ok (.iload_n 2, 1) := by decide +kernel
theorem d_Mo_ask_95 : decode c_Mo_ask 95 = .ok (.ireturn, 1) := by decide +kernel
theorem d_Mo_code_0 : decode c_Mo_code 0 = .ok (.iload_n 1, 1) := by decide +kernel
theorem d_Mo_code_1 : decode c_Mo_code 1 = .ok (.iconst 0, 1) := by decide +kernel
theorem d_Mo_code_2 : decode c_Mo_code 2 = .ok (.aload_n 0, 1) := by decide +kernel
theorem d_Mo_code_3 : decode c_Mo_code 3 = .ok (.getfield 160, 3) := by decide +kernel
theorem d_Mo_code_6 : decode c_Mo_code 6 = .ok (.iconst 1, 1) := by decide +kernel
theorem d_Mo_code_7 : decode c_Mo_code 7 = .ok (.isub, 1) := by decide +kernel
theorem d_Mo_code_8 : decode c_Mo_code 8 = .ok (.invokestatic 105, 3) := by decide +kernel
theorem d_Mo_code_11 : decode c_Mo_code 11 = .ok (.ifCond .eq 12, 3) := by decide +kernel
theorem d_Mo_code_14 : decode c_Mo_code 14 = .ok (.aload_n 0, 1) := by decide +kernel
theorem d_Mo_code_15 : decode c_Mo_code 15 = .ok (.getfield 90, 3) := by decide +kernel
theorem d_Mo_code_18 : decode c_Mo_code 18 = .ok (.iload_n 1, 1) := by decide +kernel
theorem d_Mo_code_19 : decode c_Mo_code 19 = .ok (.iaload, 1) := by decide +kernel
theorem d_Mo_code_20 : decode c_Mo_code 20 = .ok (.goto 4, 3) := by decide +kernel
theorem d_Mo_code_23 : decode c_Mo_code 23 = .ok (.iconst (-1), 1) := by decide +kernel
theorem d_Mo_code_24 : decode c_Mo_code 24 = .ok (.ireturn, 1) := by decide +kernel
theorem d_Mo_missing_0 : decode c_Mo_missing 0 = .ok (.iload_n 1, 1) := by decide +kernel
theorem d_Mo_missing_1 : decode c_Mo_missing 1 = .ok (.iconst 0, 1) := by decide +kernel
theorem d_Mo_missing_2 : decode c_Mo_missing 2 = .ok (.aload_n 0, 1) := by decide +kernel
theorem d_Mo_missing_3 : decode c_Mo_missing 3 = .ok (.getfield 175, 3) := by decide +kernel
theorem d_Mo_missing_6 : decode c_Mo_missing 6 = .ok (.iconst 1, 1) := by decide +kernel
theorem d_Mo_missing_7 : decode c_Mo_missing 7 = .ok (.isub, 1) := by decide +kernel
theorem d_Mo_missing_8 : decode c_Mo_missing 8 = .ok (.invokestatic 105, 3) := by decide +kernel
theorem d_Mo_missing_11 : decode c_Mo_missing 11 = .ok (.ifCond .eq 7, 3) := by decide +kernel
theorem d_Mo_missing_14 : decode c_Mo_missing 14 = .ok (.iload_n 2, 1) := by decide +kernel
theorem d_Mo_missing_15 : decode c_Mo_missing 15 = .ok (.ifCond .ge 5, 3) := by decide +kernel
theorem d_Mo_missing_18 : decode c_Mo_missing 18 = .ok (.iconst (-1), 1) := by decide +kernel
theorem d_Mo_missing_19 : decode c_Mo_missing 19 = .ok (.ireturn, 1) := by decide +kernel
theorem d_Mo_missing_20 : decode c_Mo_missing 20 = .ok (.iload_n 1, 1) := by decide +kernel
theorem d_Mo_missing_21 : decode c_Mo_missing 21 = .ok (.ifCond .ne 7, 3) := by decide +kernel
theorem d_Mo_missing_24 : decode c_Mo_missing 24 = .ok (.iconst 0, 1) := by decide +kernel
theorem d_Mo_missing_25 : decode c_Mo_missing 25 = .ok (.goto 11, 3) := by decide +kernel
theorem d_Mo_missing_28 : decode c_Mo_missing 28 = .ok (.aload_n 0, 1) := by decide +kernel
theorem d_Mo_missing_29 : decode c_Mo_missing 29 = .ok (.getfield 93, 3) := by decide +kernel
theorem d_Mo_missing_32 : decode c_Mo_missing 32 = .ok (.iload_n 1, 1) := by decide +kernel
theorem d_Mo_missing_33 : decode c_Mo_missing 33 = .ok (.iconst 1, 1) := by decide +kernel
theorem d_Mo_missing_34 : decode c_Mo_missing 34 = .ok (.isub, 1) := by decide +kernel
theorem d_Mo_missing_35 : decode c_Mo_missing 35 = .ok (.iaload, 1) := by decide +kernel
theorem d_Mo_missing_36 : decode c_Mo_missing 36 = .ok (.istore_n 3, 1) := by decide +kernel
theorem d_Mo_missing_37 : decode c_Mo_missing 37 = .ok (.iload_n 2, 1) := by decide +kernel
theorem d_Mo_missing_38 : decode c_Mo_missing 38 = .ok (.aload_n 0, 1) := by decide +kernel
theorem d_Mo_missing_39 : decode c_Mo_missing 39 = .ok (.getfield 93, 3) := by decide +kernel
theorem d_Mo_missing_42 : decode c_Mo_missing 42 = .ok (.iload_n 1, 1) := by decide +kernel
theorem d_Mo_missing_43 : decode c_Mo_missing 43 = .ok (.iaload, 1) := by decide +kernel
theorem d_Mo_missing_44 : decode c_Mo_missing 44 = .ok (.iload_n 3, 1) := by decide +kernel
theorem d_Mo_missing_45 : decode c_Mo_missing 45 = .ok (.isub, 1) := by decide +kernel
theorem d_Mo_missing_46 : decode c_Mo_missing 46 = .ok (.if_icmp .ge 14, 3) := by decide +kernel
theorem d_Mo_missing_49 : decode c_Mo_missing 49 = .ok (.aload_n 0, 1) := by decide +kernel
theorem d_Mo_missing_50 : decode c_Mo_missing 50 = .ok (.getfield 96, 3) := by decide +kernel
theorem d_Mo_missing_53 : decode c_Mo_missing 53 = .ok (.iload_n 3, 1) := by decide +kernel
theorem d_Mo_missing_54 : decode c_Mo_missing 54 = .ok (.iload_n 2, 1) := by decide +kernel
theorem d_Mo_missing_55 : decode c_Mo_missing 55 = .ok (.iadd, 1) := by decide +kernel
theorem d_Mo_missing_56 : decode c_Mo_missing 56 = .ok (.iaload, 1) := by decide +kernel
theorem d_Mo_missing_57 : decode c_Mo_missing 57 = .ok (.goto 4, 3) := by decide +kernel
theorem d_Mo_missing_60 : decode c_Mo_missing 60 = .ok (.iconst (-1), 1) := by decide +kernel
theorem d_Mo_missing_61 : decode c_Mo_missing 61 = .ok (.ireturn, 1) := by decide +kernel
theorem d_Mo_count_0 : decode c_Mo_count 0 = .ok (.iload_n 1, 1) := by decide +kernel
theorem d_Mo_count_1 : decode c_Mo_count 1 = .ok (.iconst 0, 1) := by decide +kernel
theorem d_Mo_count_2 : decode c_Mo_count 2 = .ok (.iconst 1, 1) := by decide +kernel
theorem d_Mo_count_3 : decode c_Mo_count 3 = .ok (.invokestatic 105, 3) := by decide +kernel
theorem d_Mo_count_6 : decode c_Mo_count 6 = .ok (.ifCond .eq 19, 3) := by decide +kernel
theorem d_Mo_count_9 : decode c_Mo_count 9 = .ok (.iload_n 1, 1) := by decide +kernel
theorem d_Mo_count_10 : decode c_Mo_count 10 = .ok (.ifCond .ne 10, 3) := by decide +kernel
theorem d_Mo_count_13 : decode c_Mo_count 13 = .ok (.aload_n 0, 1) := by decide +kernel
theorem d_Mo_count_14 : decode c_Mo_count 14 = .ok (.getfield 99, 3) := by decide +kernel
theorem d_Mo_count_17 : decode c_Mo_count 17 = .ok (.goto 7, 3) := by decide +kernel
theorem d_Mo_count_20 : decode c_Mo_count 20 = .ok (.aload_n 0, 1) := by decide +kernel
theorem d_Mo_count_21 : decode c_Mo_count 21 = .ok (.getfield 102, 3) := by decide +kernel
theorem d_Mo_count_24 : decode c_Mo_count 24 = .ok (.ireturn, 1) := by decide +kernel
theorem d_Mo_count_25 : decode c_Mo_count 25 = .ok (.iload_n 1, 1) := by decide +kernel
theorem d_Mo_count_26 : decode c_Mo_count 26 = .ok (.iconst 2, 1) := by decide +kernel
theorem d_Mo_count_27 : decode c_Mo_count 27 = .ok (.iconst 3, 1) := by decide +kernel
theorem d_Mo_count_28 : decode c_Mo_count 28 = .ok (.invokestatic 105, 3) := by decide +kernel
theorem d_Mo_count_31 : decode c_Mo_count 31 = .ok (.ifCond .eq 20, 3) := by decide +kernel
theorem d_Mo_count_34 : decode c_Mo_count 34 = .ok (.iload_n 1, 1) := by decide +kernel
theorem d_Mo_count_35 : decode c_Mo_count 35 = .ok (.iconst 2, 1) := by decide +kernel
theorem d_Mo_count_36 : decode c_Mo_count 36 = .ok (.if_icmp .ne 10, 3) := by decide +kernel
theorem d_Mo_count_39 : decode c_Mo_count 39 = .ok (.aload_n 0, 1) := by decide +kernel
theorem d_Mo_count_40 : decode c_Mo_count 40 = .ok (.getfield 160, 3) := by decide +kernel
theorem d_Mo_count_43 : decode c_Mo_count 43 = .ok (.goto 7, 3) := by decide +kernel
theorem d_Mo_count_46 : decode c_Mo_count 46 = .ok (.aload_n 0, 1) := by decide +kernel
theorem d_Mo_count_47 : decode c_Mo_count 47 = .ok (.getfield 175, 3) := by decide +kernel
theorem d_Mo_count_50 : decode c_Mo_count 50 = .ok (.ireturn, 1) := by decide +kernel
theorem d_Mo_count_51 : decode c_Mo_count 51 = .ok (.iload_n 1, 1) := by decide +kernel
theorem d_Mo_count_52 : decode c_Mo_count 52 = .ok (.iconst 4, 1) := by decide +kernel
theorem d_Mo_count_53 : decode c_Mo_count 53 = .ok (.bipush 7, 2) := by decide +kernel
theorem d_Mo_count_55 : decode c_Mo_count 55 = .ok (.invokestatic 105, 3) := by decide +kernel
theorem d_Mo_count_58 : decode c_Mo_count 58 = .ok (.ifCond .eq 14, 3) := by decide +kernel
theorem d_Mo_count_61 : decode c_Mo_count 61 = .ok (.aload_n 0, 1) := by decide +kernel
theorem d_Mo_count_62 : decode c_Mo_count 62 = .ok (.getfield 28, 3) := by decide +kernel
theorem d_Mo_count_65 : decode c_Mo_count 65 = .ok (.iload_n 1, 1) := by decide +kernel
theorem d_Mo_count_66 : decode c_Mo_count 66 = .ok (.iconst 4, 1) := by decide +kernel
theorem d_Mo_count_67 : decode c_Mo_count 67 = .ok (.isub, 1) := by decide +kernel
theorem d_Mo_count_68 : decode c_Mo_count 68 = .ok (.iaload, 1) := by decide +kernel
theorem d_Mo_count_69 : decode c_Mo_count 69 = .ok (.goto 4, 3) := by decide +kernel
theorem d_Mo_count_72 : decode c_Mo_count 72 = .ok (.iconst (-1), 1) := by decide +kernel
theorem d_Mo_count_73 : decode c_Mo_count 73 = .ok (.ireturn, 1) := by decide +kernel
theorem d_As_init_0 : decode c_As_init 0 = .ok (.aload_n 0, 1) := by decide +kernel
theorem d_As_init_1 : decode c_As_init 1 = .ok (.invokespecial 3, 3) := by decide +kernel
theorem d_As_init_4 : decode c_As_init 4 = .ok (.aload_n 0, 1) := by decide +kernel
theorem d_As_init_5 : decode c_As_init 5 = .ok (.new 9, 3) := by decide +kernel
theorem d_As_init_8 : decode c_As_init 8 = .ok (.dup, 1) := by decide +kernel
theorem d_As_init_9 : decode c_As_init 9 = .ok (.invokespecial 11, 3) := by decide +kernel
theorem d_As_init_12 : decode c_As_init 12 = .ok (.putfield 12, 3) := by decide +kernel
theorem d_As_init_15 : decode c_As_init 15 = .ok (.aload_n 0, 1) := by decide +kernel
theorem d_As_init_16 : decode c_As_init 16 = .ok (.bipush 120, 2) := by decide +kernel
theorem d_As_init_18 : decode c_As_init 18 = .ok (.newarray .int, 2) := by decide +kernel
theorem d_As_init_20 : decode c_As_init 20 = .ok (.putfield 18, 3) := by decide +kernel
theorem d_As_init_23 : decode c_As_init 23 = .ok (.aload_n 0, 1) := by decide +kernel
theorem d_As_init_24 : decode c_As_init 24 = .ok (.aload_n 1, 1) := by decide +kernel
theorem d_As_init_25 : decode c_As_init 25 = .ok (.putfield 22, 3) := by decide +kernel
theorem d_As_init_28 : decode c_As_init 28 = .ok (.aload_n 0, 1) := by decide +kernel
theorem d_As_init_29 : decode c_As_init 29 = .ok (.aload_n 2, 1) := by decide +kernel
theorem d_As_init_30 : decode c_As_init 30 = .ok (.putfield 26, 3) := by decide +kernel
theorem d_As_init_33 : decode c_As_init 33 = .ok (.return_, 1) := by decide +kernel
theorem d_As_forget_0 : decode c_As_forget 0 = .ok (.aload_n 0, 1) := by decide +kernel
theorem d_As_forget_1 : decode c_As_forget 1 = .ok (.iconst 0, 1) := by decide +kernel
theorem d_As_forget_2 : decode c_As_forget 2 = .ok (.putfield 30, 3) := by decide +kernel
theorem d_As_forget_5 : decode c_As_forget 5 = .ok (.aload_n 0, 1) := by decide +kernel
theorem d_As_forget_6 : decode c_As_forget 6 = .ok (.getfield 12, 3) := by decide +kernel
theorem d_As_forget_9 : decode c_As_forget 9 = .ok (.invokevirtual 34, 3) := by decide +kernel
theorem d_As_forget_12 : decode c_As_forget 12 = .ok (.return_, 1) := by decide +kernel
theorem d_As_answer_0 : decode c_As_answer 0 = .ok (.aload_n 0, 1) := by decide +kernel
theorem d_As_answer_1 : decode c_As_answer 1 = .ok (.invokevirtual 37, 3) := by decide +kernel
theorem d_As_answer_4 : decode c_As_answer 4 = .ok (.aload_n 0, 1) := by decide +kernel
theorem d_As_answer_5 : decode c_As_answer 5 = .ok (.iconst 0, 1) := by decide +kernel
theorem d_As_answer_6 : decode c_As_answer 6 = .ok (.putfield 40, 3) := by decide +kernel
theorem d_As_answer_9 : decode c_As_answer 9 = .ok (.aload_n 0, 1) := by decide +kernel
theorem d_As_answer_10 : decode c_As_answer 10 = .ok (.iconst 0, 1) := by decide +kernel
theorem d_As_answer_11 : decode c_As_answer 11 = .ok (.putfield 43, 3) := by decide +kernel
theorem d_As_answer_14 : decode c_As_answer 14 = .ok (.aload_n 0, 1) := by decide +kernel
theorem d_As_answer_15 : decode c_As_answer 15 = .ok (.iload_n 1, 1) := by decide +kernel
theorem d_As_answer_16 : decode c_As_answer 16 = .ok (.aload_n 2, 1) := by decide +kernel
theorem d_As_answer_17 : decode c_As_answer 17 = .ok (.iconst 1, 1) := by decide +kernel
theorem d_As_answer_18 : decode c_As_answer 18 = .ok (.invokevirtual 46, 3) := by decide +kernel
theorem d_As_answer_21 : decode c_As_answer 21 = .ok (.pop, 1) := by decide +kernel
theorem d_As_answer_22 : decode c_As_answer 22 = .ok (.aload_n 0, 1) := by decide +kernel
theorem d_As_answer_23 : decode c_As_answer 23 = .ok (.getfield 43, 3) := by decide +kernel
theorem d_As_answer_26 : decode c_As_answer 26 = .ok (.ifCond .eq 12, 3) := by decide +kernel
theorem d_As_answer_29 : decode c_As_answer 29 = .ok (.aload_n 0, 1) := by decide +kernel
theorem d_As_answer_30 : decode c_As_answer 30 = .ok (.invokevirtual 37, 3) := by decide +kernel
theorem d_As_answer_33 : decode c_As_answer 33 = .ok (.aload_n 0, 1) := by decide +kernel
theorem d_As_answer_34 : decode c_As_answer 34 = .ok (.getfield 43, 3) := by decide +kernel
theorem d_As_answer_37 : decode c_As_answer 37 = .ok (.ireturn, 1) := by decide +kernel
theorem d_As_answer_38 : decode c_As_answer 38 = .ok (.aload_n 0, 1) := by decide +kernel
theorem d_As_answer_39 : decode c_As_answer 39 = .ok (.getfield 30, 3) := by decide +kernel
theorem d_As_answer_42 : decode c_As_answer 42 = .ok (.ireturn, 1) := by decide +kernel
theorem d_As_workOutObject_0 : decode c_As_workOutObject 0 = .ok (.aload_n 0, 1) := by decide +kernel
theorem d_As_workOutObject_1 : decode c_As_workOutObject 1 = .ok (.iload_n 1, 1) := by decide +kernel
theorem d_As_workOutObject_2 : decode c_As_workOutObject 2 = .ok (.aload_n 2, 1) := by decide +kernel
theorem d_As_workOutObject_3 : decode c_As_workOutObject 3 = .ok (.iload_n 3, 1) := by decide +kernel
theorem d_As_workOutObject_4 : decode c_As_workOutObject 4 = .ok (.invokevirtual 50, 3) := by decide +kernel
theorem d_As_workOutObject_7 : decode c_As_workOutObject 7 = .ok (.astore 4, 2) := by decide +kernel
theorem d_As_workOutObject_9 : decode c_As_workOutObject 9 = .ok (.aload_n 0, 1) := by decide +kernel
theorem d_As_workOutObject_10 : decode c_As_workOutObject 10 = .ok (.getfield 30, 3) := by decide +kernel
theorem d_As_workOutObject_13 : decode c_As_workOutObject 13 = .ok (.istore 5, 2) := by decide +kernel
theorem d_As_workOutObject_15 : decode c_As_workOutObject 15 = .ok (.iconst 1, 1) := by decide +kernel
theorem d_As_workOutObject_16 : decode c_As_workOutObject 16 = .ok (.istore 6, 2) := by decide +kernel
theorem d_As_workOutObject_18 : decode c_As_workOutObject 18 = .ok (.aload_n 0, 1) := by decide +kernel
theorem d_As_workOutObject_19 : decode c_As_workOutObject 19 = .ok (.iconst 2, 1) := by decide +kernel
theorem d_As_workOutObject_20 : decode c_As_workOutObject 20 = .ok (.invokevirtual 54, 3) := by decide +kernel
theorem d_As_workOutObject_23 : decode c_As_workOutObject 23 = .ok (.aload 4, 2) := by decide +kernel
theorem d_As_workOutObject_25 : decode c_As_workOutObject 25 = .ok (.astore 7, 2) := by decide +kernel
theorem d_As_workOutObject_27 : decode c_As_workOutObject 27 = .ok (.aload 7, 2) := by decide +kernel
theorem d_As_workOutObject_29 : decode c_As_workOutObject 29 = .ok (.ifnull 74, 3) := by decide +kernel
theorem d_As_workOutObject_32 : decode c_As_workOutObject 32 = .ok (.aload_n 0, 1) := by decide +kernel
theorem d_As_workOutObject_33 : decode c_As_workOutObject 33 = .ok (.getfield 43, 3) := by decide +kernel
theorem d_As_workOutObject_36 : decode c_As_workOutObject 36 = .ok (.ifCond .ne 67, 3) := by decide +kernel
theorem d_As_workOutObject_39 : decode c_As_workOutObject 39 = .ok (.aload_n 0, 1) := by decide +kernel
theorem d_As_workOutObject_40 : decode c_As_workOutObject 40 = .ok (.bipush 10, 2) := by decide +kernel
theorem d_As_workOutObject_42 : decode c_As_workOutObject 42 = .ok (.aload 7, 2) := by decide +kernel
theorem d_As_workOutObject_44 : decode c_As_workOutObject 44 = .ok (.getfield 58, 3) := by decide +kernel
theorem d_As_workOutObject_47 : decode c_As_workOutObject 47 = .ok (.iadd, 1) := by decide +kernel
theorem d_As_workOutObject_48 : decode c_As_workOutObject 48 = .ok (.invokevirtual 54, 3) := by decide +kernel
theorem d_As_workOutObject_51 : decode c_As_workOutObject 51 = .ok (.aload_n 0, 1) := by decide +kernel
theorem d_As_workOutObject_52 : decode c_As_workOutObject 52 = .ok (.getfield 12, 3) := by decide +kernel
theorem d_As_workOutObject_55 : decode c_As_workOutObject 55 = .ok (.aload 7, 2) := by decide +kernel
theorem d_As_workOutObject_57 : decode c_As_workOutObject 57 = .ok (.getfield 58, 3) := by decide +kernel
theorem d_As_workOutObject_60 : decode c_As_workOutObject 60 = .ok (.invokevirtual 63, 3) := by decide +kernel
theorem d_As_workOutObject_63 : decode c_As_workOutObject 63 = .ok (.aload_n 0, 1) := by decide +kernel
theorem d_As_workOutObject_64 : decode c_As_workOutObject 64 = .ok (.iload_n 1, 1) := by decide +kernel
theorem d_As_workOutObject_65 : decode c_As_workOutObject 65 = .ok (.aload 7, 2) := by decide +kernel
theorem d_As_workOutObject_67 : decode c_As_workOutObject 67 = .ok (.iload_n 3, 1) := by decide +kernel
theorem d_As_workOutObject_68 : decode c_As_workOutObject 68 = .ok (.invokevirtual 66, 3) := by decide +kernel
theorem d_As_workOutObject_71 : decode c_As_workOutObject 71 = .ok (.ifCond .eq 12, 3) := by decide +kernel
theorem d_As_workOutObject_74 : decode c_As_workOutObject 74 = .ok (.iload 6, 2) := by decide +kernel
theorem d_As_workOutObject_76 : decode c_As_workOutObject 76 = .ok (.ifCond .eq 7, 3) := by decide +kernel
theorem d_As_workOutObject_79 : decode c_As_workOutObject 79 = .ok (.iconst 1, 1) := by decide +kernel
theorem d_As_workOutObject_80 : decode c_As_workOutObject 80 = .ok (.goto 4, 3) := by decide +kernel
theorem d_As_workOutObject_83 : decode c_As_workOutObject 83 = .ok (.iconst 0, 1) := by decide +kernel
theorem d_As_workOutObject_84 : decode c_As_workOutObject 84 = .ok (.istore 6, 2) := by decide +kernel
theorem d_As_workOutObject_86 : decode c_As_workOutObject 86 = .ok (.aload_n 0, 1) := by decide +kernel
theorem d_As_workOutObject_87 : decode c_As_workOutObject 87 = .ok (.getfield 12, 3) := by decide +kernel
theorem d_As_workOutObject_90 : decode c_As_workOutObject 90 = .ok (.invokevirtual 69, 3) := by decide +kernel
theorem d_As_workOutObject_93 : decode c_As_workOutObject 93 = .ok (.aload 7, 2) := by decide +kernel
theorem d_As_workOutObject_95 : decode c_As_workOutObject 95 = .ok (.getfield 72, 3) := by decide +kernel
theorem d_As_workOutObject_98 : decode c_As_workOutObject 98 = .ok (.astore 7, 2) := by decide +kernel
theorem d_As_workOutObject_100 : decode c_As_workOutObject 100 = .ok (.goto (-73), 3) := by decide +kernel
theorem d_As_workOutObject_103 : decode c_As_workOutObject 103 = .ok (.aload_n 0, 1) := by decide +kernel
theorem d_As_workOutObject_104 : decode c_As_workOutObject 104 = .ok (.iconst 3, 1) := by decide +kernel
theorem d_As_workOutObject_105 : decode c_As_workOutObject 105 = .ok (.invokevirtual 54, 3) := by decide +kernel
theorem d_As_workOutObject_108 : decode c_As_workOutObject 108 = .ok (.iload 6, 2) := by decide +kernel
theorem d_As_workOutObject_110 : decode c_As_workOutObject 110 = .ok (.ifCond .ne 16, 3) := by decide +kernel
theorem d_As_workOutObject_113 : decode c_As_workOutObject 113 = .ok (.aload_n 0, 1) := by decide +kernel
theorem d_As_workOutObject_114 : decode c_As_workOutObject 114 = .ok (.getfield 43, 3) := by decide +kernel
theorem d_As_workOutObject_117 : decode c_As_workOutObject 117 = .ok (.ifCond .ne 9, 3) := by decide +kernel
theorem d_As_workOutObject_120 : decode c_As_workOutObject 120 = .ok (.aload_n 0, 1) := by decide +kernel
theorem d_As_workOutObject_121 : decode c_As_workOutObject 121 = .ok (.iload 5, 2) := by decide +kernel
theorem d_As_workOutObject_123 : decode c_As_workOutObject 123 = .ok (.invokevirtual 76, 3) := by decide +kernel
theorem d_As_workOutObject_126 : decode c_As_workOutObject 126 = .ok (.iload 6, 2) := by decide +kernel
theorem d_As_workOutObject_128 : decode c_As_workOutObject 128 = .ok (.ireturn, 1) := by decide +kernel
theorem d_As_collectEntries_0 : decode c_As_collectEntries 0 = .ok (.iload_n 3, 1) := by decide +kernel
theorem d_As_collectEntries_1 : decode c_As_collectEntries 1 = .ok (.bipush 13, 2) := by decide +kernel
theorem d_As_collectEntries_3 : decode c_As_collectEntries 3 = .ok (.if_icmp .le 9, 3) := by decide +kernel
theorem d_As_collectEntries_6 : decode c_As_collectEntries 6 = .ok (.aload_n 0, 1) := by decide +kernel
theorem d_As_collectEntries_7 : decode c_As_collectEntries 7 = .ok (.bipush (-5), 2) := by decide +kernel
theorem d_As_collectEntries_9 : decode c_As_collectEntries 9 = .ok (.putfield 43, 3) := by decide +kernel
theorem d_As_collectEntries_12 : decode c_As_collectEntries 12 = .ok (.aload_n 0, 1) := by decide +kernel
theorem d_As_collectEntries_13 : decode c_As_collectEntries 13 = .ok (.getfield 43, 3) := by decide +kernel
theorem d_As_collectEntries_16 : decode c_As_collectEntries 16 = .ok (.ifCond .eq 5, 3) := by decide +kernel
theorem d_As_collectEntries_19 : decode c_As_collectEntries 19 = .ok (.aconst_null, 1) := by decide +kernel
theorem d_As_collectEntries_20 : decode c_As_collectEntries 20 = .ok (.areturn, 1) := by decide +kernel
theorem d_As_collectEntries_21 : decode c_As_collectEntries 21 = .ok (.aload_n 0, 1) := by decide +kernel
theorem d_As_collectEntries_22 : decode c_As_collectEntries 22 = .ok (.getfield 26, 3) := by decide +kernel
theorem d_As_collectEntries_25 : decode c_As_collectEntries 25 = .ok (.aload_n 0, 1) := by decide +kernel
theorem d_As_collectEntries_26 : decode c_As_collectEntries 26 = .ok (.getfield 22, 3) := by decide +kernel
theorem d_As_collectEntries_29 : decode c_As_collectEntries 29 = .ok (.iload_n 1, 1) := by decide +kernel
theorem d_As_collectEntries_30 : decode c_As_collectEntries 30 = .ok (.invokevirtual 79, 3) := by decide +kernel
theorem d_As_collectEntries_33 : decode c_As_collectEntries 33 = .ok (.aload_n 2, 1) := by decide +kernel
theorem d_As_collectEntries_34 : decode c_As_collectEntries 34 = .ok (.invokevirtual 85, 3) := by decide +kernel
theorem d_As_collectEntries_37 : decode c_As_collectEntries 37 = .ok (.astore 4, 2) := by decide +kernel
theorem d_As_collectEntries_39 : decode c_As_collectEntries 39 = .ok (.aload_n 0, 1) := by decide +kernel
theorem d_As_collectEntries_40 : decode c_As_collectEntries 40 = .ok (.getfield 26, 3) := by decide +kernel
theorem d_As_collectEntries_43 : decode c_As_collectEntries 43 = .ok (.getfield 91, 3) := by decide +kernel
theorem d_As_collectEntries_46 : decode c_As_collectEntries 46 = .ok (.ifCond .eq 9, 3) := by decide +kernel
theorem d_As_collectEntries_49 : decode c_As_collectEntries 49 = .ok (.aload_n 0, 1) := by decide +kernel
theorem d_As_collectEntries_50 : decode c_As_collectEntries 50 = .ok (.bipush (-4), 2) := by decide +kernel
theorem d_As_collectEntries_52 : decode c_As_collectEntries 52 = .ok (.putfield 43, 3) := by decide +kernel
theorem d_As_collectEntries_55 : decode c_As_collectEntries 55 = .ok (.aload 4, 2) := by decide +kernel
theorem d_As_collectEntries_57 : decode c_As_collectEntries 57 = .ok (.areturn, 1) := by decide +kernel
theorem d_As_workOutValue_0 : decode c_As_workOutValue 0 = .ok (.aload_n 2, 1) := by decide +kernel
theorem d_As_workOutValue_1 : decode c_As_workOutValue 1 = .ok (.getfield 95, 3) := by decide +kernel
theorem d_As_workOutValue_4 : decode c_As_workOutValue 4 = .ok (.iconst 2, 1) := by decide +kernel
theorem d_As_workOutValue_5 : decode c_As_workOutValue 5 = .ok (.if_icmp .ne 21, 3) := by decide +kernel
theorem d_As_workOutValue_8 : decode c_As_workOutValue 8 = .ok (.aload_n 0, 1) := by decide +kernel
theorem d_As_workOutValue_9 : decode c_As_workOutValue 9 = .ok (.sipush 2000, 3) := by decide +kernel
theorem d_As_workOutValue_12 : decode c_As_workOutValue 12 = .ok (.aload_n 0, 1) := by decide +kernel
theorem d_As_workOutValue_13 : decode c_As_workOutValue 13 = .ok (.getfield 22, 3) := by decide +kernel
theorem d_As_workOutValue_16 : decode c_As_workOutValue 16 = .ok (.iload_n 1, 1) := by decide +kernel
theorem d_As_workOutValue_17 : decode c_As_workOutValue 17 = .ok (.invokevirtual 79, 3) := by decide +kernel
theorem d_As_workOutValue_20 : decode c_As_workOutValue 20 = .ok (.iadd, 1) := by decide +kernel
theorem d_As_workOutValue_21 : decode c_As_workOutValue 21 = .ok (.invokevirtual 54, 3) := by decide +kernel
theorem d_As_workOutValue_24 : decode c_As_workOutValue 24 = .ok (.iconst 1, 1) := by decide +kernel
theorem d_As_workOutValue_25 : decode c_As_workOutValue 25 = .ok (.ireturn, 1) := by decide +kernel
theorem d_As_workOutValue_26 : decode c_As_workOutValue 26 = .ok (.aload_n 2, 1) := by decide +kernel
theorem d_As_workOutValue_27 : decode c_As_workOutValue 27 = .ok (.getfield 98, 3) := by decide +kernel
theorem d_As_workOutValue_30 : decode c_As_workOutValue 30 = .ok (.lookupswitch 42 #[(1, 26), (2, 34)], 26) := by decide +kernel
theorem d_As_workOutValue_56 : decode c_As_workOutValue 56 = .ok (.aload_n 0, 1) := by decide +kernel
theorem d_As_workOutValue_57 : decode c_As_workOutValue 57 = .ok (.iload_n 1, 1) := by decide +kernel
theorem d_As_workOutValue_58 : decode c_As_workOutValue 58 = .ok (.aload_n 2, 1) := by decide +kernel
theorem d_As_workOutValue_59 : decode c_As_workOutValue 59 = .ok (.iload_n 3, 1) := by decide +kernel
theorem d_As_workOutValue_60 : decode c_As_workOutValue 60 = .ok (.invokevirtual 101, 3) := by decide +kernel
theorem d_As_workOutValue_63 : decode c_As_workOutValue 63 = .ok (.ireturn, 1) := by decide +kernel
theorem d_As_workOutValue_64 : decode c_As_workOutValue 64 = .ok (.aload_n 0, 1) := by decide +kernel
theorem d_As_workOutValue_65 : decode c_As_workOutValue 65 = .ok (.iload_n 1, 1) := by decide +kernel
theorem d_As_workOutValue_66 : decode c_As_workOutValue 66 = .ok (.aload_n 2, 1) := by decide +kernel
theorem d_As_workOutValue_67 : decode c_As_workOutValue 67 = .ok (.iload_n 3, 1) := by decide +kernel
theorem d_As_workOutValue_68 : decode c_As_workOutValue 68 = .ok (.invokevirtual 104, 3) := by decide +kernel
theorem d_As_workOutValue_71 : decode c_As_workOutValue 71 = .ok (.ireturn, 1) := by decide +kernel
theorem d_As_workOutValue_72 : decode c_As_workOutValue 72 = .ok (.aload_n 0, 1) := by decide +kernel
theorem d_As_workOutValue_73 : decode c_As_workOutValue 73 = .ok (.iload_n 1, 1) := by decide +kernel
theorem d_As_workOutValue_74 : decode c_As_workOutValue 74 = .ok (.aload_n 2, 1) := by decide +kernel
theorem d_As_workOutValue_75 : decode c_As_workOutValue 75 = .ok (.invokevirtual 107, 3) := by decide +kernel
theorem d_As_workOutValue_78 : decode c_As_workOutValue 78 = .ok (.ireturn, 1) := by decide +kernel
theorem d_As_workOutNumber_0 : decode c_As_workOutNumber 0 = .ok (.aload_n 0, 1) := by decide +kernel
theorem d_As_workOutNumber_1 : decode c_As_workOutNumber 1 = .ok (.getfield 22, 3) := by decide +kernel
theorem d_As_workOutNumber_4 : decode c_As_workOutNumber 4 = .ok (.iload_n 1, 1) := by decide +kernel
theorem d_As_workOutNumber_5 : decode c_As_workOutNumber 5 = .ok (.aload_n 2, 1) := by decide +kernel
theorem d_As_workOutNumber_6 : decode c_As_workOutNumber 6 = .ok (.getfield 111, 3) := by decide +kernel
theorem d_As_workOutNumber_9 : decode c_As_workOutNumber 9 = .ok (.invokevirtual 114, 3) := by decide +kernel
theorem d_As_workOutNumber_12 : decode c_As_workOutNumber 12 = .ok (.istore_n 3, 1) := by decide +kernel
theorem d_As_workOutNumber_13 : decode c_As_workOutNumber 13 = .ok (.iload_n 3, 1) := by decide +kernel
theorem d_As_workOutNumber_14 : decode c_As_workOutNumber 14 = .ok (.iconst (-1), 1) := by decide +kernel
theorem d_As_workOutNumber_15 : decode c_As_workOutNumber 15 = .ok (.if_icmp .ne 9, 3) := by decide +kernel
theorem d_As_workOutNumber_18 : decode c_As_workOutNumber 18 = .ok (.aload_n 0, 1) := by decide +kernel
theorem d_As_workOutNumber_19 : decode c_As_workOutNumber 19 = .ok (.aload_n 2, 1) := by decide +kernel
theorem d_As_workOutNumber_20 : decode c_As_workOutNumber 20 = .ok (.invokevirtual 118, 3) := by decide +kernel
theorem d_As_workOutNumber_23 : decode c_As_workOutNumber 23 = .ok (.ireturn, 1) := by decide +kernel
theorem d_As_workOutNumber_24 : decode c_As_workOutNumber 24 = .ok (.aload_n 0, 1) := by decide +kernel
theorem d_As_workOutNumber_25 : decode c_As_workOutNumber 25 = .ok (.sipush 1000, 3) := by decide +kernel
theorem d_As_workOutNumber_28 : decode c_As_workOutNumber 28 = .ok (.iload_n 3, 1) := by decide +kernel
theorem d_As_workOutNumber_29 : decode c_As_workOutNumber 29 = .ok (.iadd, 1) := by decide +kernel
theorem d_As_workOutNumber_30 : decode c_As_workOutNumber 30 = .ok (.invokevirtual 54, 3) := by decide +kernel
theorem d_As_workOutNumber_33 : decode c_As_workOutNumber 33 = .ok (.iconst 1, 1) := by decide +kernel
theorem d_As_workOutNumber_34 : decode c_As_workOutNumber 34 = .ok (.ireturn, 1) := by decide +kernel
theorem d_As_workOutLink_0 : decode c_As_workOutLink 0 = .ok (.aload_n 0, 1) := by decide +kernel
theorem d_As_workOutLink_1 : decode c_As_workOutLink 1 = .ok (.getfield 22, 3) := by decide +kernel
theorem d_As_workOutLink_4 : decode c_As_workOutLink 4 = .ok (.iload_n 1, 1) := by decide +kernel
theorem d_As_workOutLink_5 : decode c_As_workOutLink 5 = .ok (.aload_n 2, 1) := by decide +kernel
theorem d_As_workOutLink_6 : decode c_As_workOutLink 6 = .ok (.getfield 111, 3) := by decide +kernel
theorem d_As_workOutLink_9 : decode c_As_workOutLink 9 = .ok (.invokevirtual 122, 3) := by decide +kernel
theorem d_As_workOutLink_12 : decode c_As_workOutLink 12 = .ok (.ifCond .ne 9, 3) := by decide +kernel
theorem d_As_workOutLink_15 : decode c_As_workOutLink 15 = .ok (.aload_n 0, 1) := by decide +kernel
theorem d_As_workOutLink_16 : decode c_As_workOutLink 16 = .ok (.aload_n 2, 1) := by decide +kernel
theorem d_As_workOutLink_17 : decode c_As_workOutLink 17 = .ok (.invokevirtual 118, 3) := by decide +kernel
theorem d_As_workOutLink_20 : decode c_As_workOutLink 20 = .ok (.ireturn, 1) := by decide +kernel
theorem d_As_workOutLink_21 : decode c_As_workOutLink 21 = .ok (.aload_n 0, 1) := by decide +kernel
theorem d_As_workOutLink_22 : decode c_As_workOutLink 22 = .ok (.aload_n 0, 1) := by decide +kernel
theorem d_As_workOutLink_23 : decode c_As_workOutLink 23 = .ok (.getfield 22, 3) := by decide +kernel
theorem d_As_workOutLink_26 : decode c_As_workOutLink 26 = .ok (.iload_n 1, 1) := by decide +kernel
theorem d_As_workOutLink_27 : decode c_As_workOutLink 27 = .ok (.aload_n 2, 1) := by decide +kernel
theorem d_As_workOutLink_28 : decode c_As_workOutLink 28 = .ok (.getfield 111, 3) := by decide +kernel
theorem d_As_workOutLink_31 : decode c_As_workOutLink 31 = .ok (.iconst 0, 1) := by decide +kernel
theorem d_As_workOutLink_32 : decode c_As_workOutLink 32 = .ok (.invokevirtual 125, 3) := by decide +kernel
theorem d_As_workOutLink_35 : decode c_As_workOutLink 35 = .ok (.aload_n 2, 1) := by decide +kernel
theorem d_As_workOutLink_36 : decode c_As_workOutLink 36 = .ok (.iload_n 3, 1) := by decide +kernel
theorem d_As_workOutLink_37 : decode c_As_workOutLink 37 = .ok (.iconst 1, 1) := by decide +kernel
theorem d_As_workOutLink_38 : decode c_As_workOutLink 38 = .ok (.iadd, 1) := by decide +kernel
theorem d_As_workOutLink_39 : decode c_As_workOutLink 39 = .ok (.invokevirtual 46, 3) := by decide +kernel
theorem d_As_workOutLink_42 : decode c_As_workOutLink 42 = .ok (.istore 4, 2) := by decide +kernel
theorem d_As_workOutLink_44 : decode c_As_workOutLink 44 = .ok (.iload 4, 2) := by decide +kernel
theorem d_As_workOutLink_46 : decode c_As_workOutLink 46 = .ok (.ifCond .ne 10, 3) := by decide +kernel
theorem d_As_workOutLink_49 : decode c_As_workOutLink 49 = .ok (.aload_n 2, 1) := by decide +kernel
theorem d_As_workOutLink_50 : decode c_As_workOutLink 50 = .ok (.getfield 129, 3) := by decide +kernel
theorem d_As_workOutLink_53 : decode c_As_workOutLink 53 = .ok (.ifCond .ne 7, 3) := by decide +kernel
theorem d_As_workOutLink_56 : decode c_As_workOutLink 56 = .ok (.iconst 1, 1) := by decide +kernel
theorem d_As_workOutLink_57 : decode c_As_workOutLink 57 = .ok (.goto 4, 3) := by decide +kernel
theorem d_As_workOutLink_60 : decode c_As_workOutLink 60 = .ok (.iconst 0, 1) := by decide +kernel
theorem d_As_workOutLink_61 : decode c_As_workOutLink 61 = .ok (.ireturn, 1) := by decide +kernel
theorem d_As_workOutMany_0 : decode c_As_workOutMany 0 = .ok (.iconst 1, 1) := by decide +kernel
theorem d_As_workOutMany_1 : decode c_As_workOutMany 1 = .ok (.istore 4, 2) := by decide +kernel
theorem d_As_workOutMany_3 : decode c_As_workOutMany 3 = .ok (.aload_n 0, 1) := by decide +kernel
theorem d_As_workOutMany_4 : decode c_As_workOutMany 4 = .ok (.iconst 4, 1) := by decide +kernel
theorem d_As_workOutMany_5 : decode c_As_workOutMany 5 = .ok (.invokevirtual 54, 3) := by decide +kernel
theorem d_As_workOutMany_8 : decode c_As_workOutMany 8 = .ok (.iconst 0, 1) := by decide +kernel
theorem d_As_workOutMany_9 : decode c_As_workOutMany 9 = .ok (.istore 5, 2) := by decide +kernel
theorem d_As_workOutMany_11 : decode c_As_workOutMany 11 = .ok (.iload 5, 2) := by decide +kernel
theorem d_As_workOutMany_13 : decode c_As_workOutMany 13 = .ok (.aload_n 0, 1) := by decide +kernel
theorem d_As_workOutMany_14 : decode c_As_workOutMany 14 = .ok (.getfield 22, 3) := by decide +kernel
theorem d_As_workOutMany_17 : decode c_As_workOutMany 17 = .ok (.iload_n 1, 1) := by decide +kernel
theorem d_As_workOutMany_18 : decode c_As_workOutMany 18 = .ok (.aload_n 2, 1) := by decide +kernel
theorem d_As_workOutMany_19 : decode c_As_workOutMany 19 = .ok (.getfield 111, 3) := by decide +kernel
theorem d_As_workOutMany_22 : decode c_As_workOutMany 22 = .ok (.invokevirtual 122, 3) := by decide +kernel
theorem d_As_workOutMany_25 : decode c_As_workOutMany 25 = .ok (.if_icmp .ge 72, 3) := by decide +kernel
theorem d_As_workOutMany_28 : decode c_As_workOutMany 28 = .ok (.aload_n 0, 1) := by decide +kernel
theorem d_As_workOutMany_29 : decode c_As_workOutMany 29 = .ok (.getfield 43, 3) := by decide +kernel
theorem d_As_workOutMany_32 : decode c_As_workOutMany 32 = .ok (.ifCond .ne 65, 3) := by decide +kernel
theorem d_As_workOutMany_35 : decode c_As_workOutMany 35 = .ok (.aload_n 0, 1) := by decide +kernel
theorem d_As_workOutMany_36 : decode c_As_workOutMany 36 = .ok (.getfield 12, 3) := by decide +kernel
theorem d_As_workOutMany_39 : decode c_As_workOutMany 39 = .ok (.bipush 10, 2) := by decide +kernel
theorem d_As_workOutMany_41 : decode c_As_workOutMany 41 = .ok (.iload 5, 2) := by decide +kernel
theorem d_As_workOutMany_43 : decode c_As_workOutMany 43 = .ok (.iadd, 1) := by decide +kernel
theorem d_As_workOutMany_44 : decode c_As_workOutMany 44 = .ok (.invokevirtual 63, 3) := by decide +kernel
theorem d_As_workOutMany_47 : decode c_As_workOutMany 47 = .ok (.aload_n 0, 1) := by decide +kernel
theorem d_As_workOutMany_48 : decode c_As_workOutMany 48 = .ok (.aload_n 0, 1) := by decide +kernel
theorem d_As_workOutMany_49 : decode c_As_workOutMany 49 = .ok (.getfield 22, 3) := by decide +kernel
theorem d_As_workOutMany_52 : decode c_As_workOutMany 52 = .ok (.iload_n 1, 1) := by decide +kernel
theorem d_As_workOutMany_53 : decode c_As_workOutMany 53 = .ok (.aload_n 2, 1) := by decide +kernel
theorem d_As_workOutMany_54 : decode c_As_workOutMany 54 = .ok (.getfield 111, 3) := by decide +kernel
theorem d_As_workOutMany_57 : decode c_As_workOutMany 57 = .ok (.iload 5, 2) := by decide +kernel
theorem d_As_workOutMany_59 : decode c_As_workOutMany 59 = .ok (.invokevirtual 125, 3) := by decide +kernel
theorem d_As_workOutMany_62 : decode c_As_workOutMany 62 = .ok (.aload_n 2, 1) := by decide +kernel
theorem d_As_workOutMany_63 : decode c_As_workOutMany 63 = .ok (.iload_n 3, 1) := by decide +kernel
theorem d_As_workOutMany_64 : decode c_As_workOutMany 64 = .ok (.iconst 1, 1) := by decide +kernel
theorem d_As_workOutMany_65 : decode c_As_workOutMany 65 = .ok (.iadd, 1) := by decide +kernel
theorem d_As_workOutMany_66 : decode c_As_workOutMany 66 = .ok (.invokevirtual 46, 3) := by decide +kernel
theorem d_As_workOutMany_69 : decode c_As_workOutMany 69 = .ok (.ifCond .eq 12, 3) := by decide +kernel
theorem d_As_workOutMany_72 : decode c_As_workOutMany 72 = .ok (.iload 4, 2) := by decide +kernel
theorem d_As_workOutMany_74 : decode c_As_workOutMany 74 = .ok (.ifCond .eq 7, 3) := by decide +kernel
theorem d_As_workOutMany_77 : decode c_As_workOutMany 77 = .ok (.iconst 1, 1) := by decide +kernel
theorem d_As_workOutMany_78 : decode c_As_workOutMany 78 = .ok (.goto 4, 3) := by decide +kernel
theorem d_As_workOutMany_81 : decode c_As_workOutMany 81 = .ok (.iconst 0, 1) := by decide +kernel
theorem d_As_workOutMany_82 : decode c_As_workOutMany 82 = .ok (.istore 4, 2) := by decide +kernel
theorem d_As_workOutMany_84 : decode c_As_workOutMany 84 = .ok (.aload_n 0, 1) := by decide +kernel
theorem d_As_workOutMany_85 : decode c_As_workOutMany 85 = .ok (.getfield 12, 3) := by decide +kernel
theorem d_As_workOutMany_88 : decode c_As_workOutMany 88 = .ok (.invokevirtual 69, 3) := by decide +kernel
theorem d_As_workOutMany_91 : decode c_As_workOutMany 91 = .ok (.iinc 5 1, 3) := by decide +kernel
theorem d_As_workOutMany_94 : decode c_As_workOutMany 94 = .ok (.goto (-83), 3) := by decide +kernel
theorem d_As_workOutMany_97 : decode c_As_workOutMany 97 = .ok (.aload_n 0, 1) := by decide +kernel
theorem d_As_workOutMany_98 : decode c_As_workOutMany 98 = .ok (.iconst 5, 1) := by decide +kernel
theorem d_As_workOutMany_99 : decode c_As_workOutMany 99 = .ok (.invokevirtual 54, 3) := by decide +kernel
theorem d_As_workOutMany_102 : decode c_As_workOutMany 102 = .ok (.iload 4, 2) := by decide +kernel
theorem d_As_workOutMany_104 : decode c_As_workOutMany 104 = .ok (.ifCond .ne 10, 3) := by decide +kernel
theorem d_As_workOutMany_107 : decode c_As_workOutMany 107 = .ok (.aload_n 2, 1) := by decide +kernel
theorem d_As_workOutMany_108 : decode c_As_workOutMany 108 = .ok (.getfield 129, 3) := by decide +kernel
theorem d_As_workOutMany_111 : decode c_As_workOutMany 111 = .ok (.ifCond .ne 7, 3) := by decide +kernel
theorem d_As_workOutMany_114 : decode c_As_workOutMany 114 = .ok (.iconst 1, 1) := by decide +kernel
theorem d_As_workOutMany_115 : decode c_As_workOutMany 115 = .ok (.goto 4, 3) := by decide +kernel
theorem d_As_workOutMany_118 : decode c_As_workOutMany 118 = .ok (.iconst 0, 1) := by decide +kernel
theorem d_As_workOutMany_119 : decode c_As_workOutMany 119 = .ok (.ireturn, 1) := by decide +kernel
theorem d_As_workOutNothing_0 : decode c_As_workOutNothing 0 = .ok (.aload_n 0, 1) := by decide +kernel
theorem d_As_workOutNothing_1 : decode c_As_workOutNothing 1 = .ok (.iconst 1, 1) := by decide +kernel
theorem d_As_workOutNothing_2 : decode c_As_workOutNothing 2 = .ok (.invokevirtual 54, 3) := by decide +kernel
theorem d_As_workOutNothing_5 : decode c_As_workOutNothing 5 = .ok (.aload_n 1, 1) := by decide +kernel
theorem d_As_workOutNothing_6 : decode c_As_workOutNothing 6 = .ok (.getfield 129, 3) := by decide +kernel
theorem d_As_workOutNothing_9 : decode c_As_workOutNothing 9 = .ok (.ifCond .ne 5, 3) := by decide +kernel
theorem d_As_workOutNothing_12 : decode c_As_workOutNothing 12 = .ok (.iconst 1, 1) := by decide +kernel
theorem d_As_workOutNothing_13 : decode c_As_workOutNothing 13 = .ok (.ireturn, 1) := by decide +kernel
theorem d_As_workOutNothing_14 : decode c_As_workOutNothing 14 = .ok (.aload_n 0, 1) := by decide +kernel
theorem d_As_workOutNothing_15 : decode c_As_workOutNothing 15 = .ok (.getfield 12, 3) := by decide +kernel
theorem d_As_workOutNothing_18 : decode c_As_workOutNothing 18 = .ok (.invokevirtual 132, 3) := by decide +kernel
theorem d_As_workOutNothing_21 : decode c_As_workOutNothing 21 = .ok (.iconst 0, 1) := by decide +kernel
theorem d_As_workOutNothing_22 : decode c_As_workOutNothing 22 = .ok (.ireturn, 1) := by decide +kernel
theorem d_As_addCode_0 : decode c_As_addCode 0 = .ok (.aload_n 0, 1) := by decide +kernel
theorem d_As_addCode_1 : decode c_As_addCode 1 = .ok (.getfield 43, 3) := by decide +kernel
theorem d_As_addCode_4 : decode c_As_addCode 4 = .ok (.ifCond .eq 4, 3) := by decide +kernel
theorem d_As_addCode_7 : decode c_As_addCode 7 = .ok (.return_, 1) := by decide +kernel
theorem d_As_addCode_8 : decode c_As_addCode 8 = .ok (.aload_n 0, 1) := by decide +kernel
theorem d_As_addCode_9 : decode c_As_addCode 9 = .ok (.getfield 40, 3) := by decide +kernel
theorem d_As_addCode_12 : decode c_As_addCode 12 = .ok (.bipush 120, 2) := by decide +kernel
theorem d_As_addCode_14 : decode c_As_addCode 14 = .ok (.if_icmp .lt 10, 3) := by decide +kernel
theorem d_As_addCode_17 : decode c_As_addCode 17 = .ok (.aload_n 0, 1) := by decide +kernel
theorem d_As_addCode_18 : decode c_As_addCode 18 = .ok (.bipush (-5), 2) := by decide +kernel
theorem d_As_addCode_20 : decode c_As_addCode 20 = .ok (.putfield 43, 3) := by decide +kernel
theorem d_As_addCode_23 : decode c_As_addCode 23 = .ok (.return_, 1) := by decide +kernel
theorem d_As_addCode_24 : decode c_As_addCode 24 = .ok (.aload_n 0, 1) := by decide +kernel
theorem d_As_addCode_25 : decode c_As_addCode 25 = .ok (.dup, 1) := by decide +kernel
theorem d_As_addCode_26 : decode c_As_addCode 26 = .ok (.getfield 40, 3) := by decide +kernel
theorem d_As_addCode_29 : decode c_As_addCode 29 = .ok (.iconst 1, 1) := by decide +kernel
theorem d_As_addCode_30 : decode c_As_addCode 30 = .ok (.iadd, 1) := by decide +kernel
theorem d_As_addCode_31 : decode c_As_addCode 31 = .ok (.putfield 40, 3) := by decide +kernel
theorem d_As_addCode_34 : decode c_As_addCode 34 = .ok (.aload_n 0, 1) := by decide +kernel
theorem d_As_addCode_35 : decode c_As_addCode 35 = .ok (.getfield 18, 3) := by decide +kernel
theorem d_As_addCode_38 : decode c_As_addCode 38 = .ok (.aload_n 0, 1) := by decide +kernel
theorem d_As_addCode_39 : decode c_As_addCode 39 = .ok (.getfield 30, 3) := by decide +kernel
theorem d_As_addCode_42 : decode c_As_addCode 42 = .ok (.iload_n 1, 1) := by decide +kernel
theorem d_As_addCode_43 : decode c_As_addCode 43 = .ok (.iastore, 1) := by decide +kernel
theorem d_As_addCode_44 : decode c_As_addCode 44 = .ok (.aload_n 0, 1) := by decide +kernel
theorem d_As_addCode_45 : decode c_As_addCode 45 = .ok (.dup, 1) := by decide +kernel
theorem d_As_addCode_46 : decode c_As_addCode 46 = .ok (.getfield 30, 3) := by decide +kernel
theorem d_As_addCode_49 : decode c_As_addCode 49 = .ok (.iconst 1, 1) := by decide +kernel
theorem d_As_addCode_50 : decode c_As_addCode 50 = .ok (.iadd, 1) := by decide +kernel
theorem d_As_addCode_51 : decode c_As_addCode 51 = .ok (.putfield 30, 3) := by decide +kernel
theorem d_As_addCode_54 : decode c_As_addCode 54 = .ok (.return_, 1) := by decide +kernel
theorem d_As_cutBack_0 : decode c_As_cutBack 0 = .ok (.aload_n 0, 1) := by decide +kernel
theorem d_As_cutBack_1 : decode c_As_cutBack 1 = .ok (.getfield 18, 3) := by decide +kernel
theorem d_As_cutBack_4 : decode c_As_cutBack 4 = .ok (.iload_n 1, 1) := by decide +kernel
theorem d_As_cutBack_5 : decode c_As_cutBack 5 = .ok (.iconst 1, 1) := by decide +kernel
theorem d_As_cutBack_6 : decode c_As_cutBack 6 = .ok (.iastore, 1) := by decide +kernel
theorem d_As_cutBack_7 : decode c_As_cutBack 7 = .ok (.aload_n 0, 1) := by decide +kernel
theorem d_As_cutBack_8 : decode c_As_cutBack 8 = .ok (.iload_n 1, 1) := by decide +kernel
theorem d_As_cutBack_9 : decode c_As_cutBack 9 = .ok (.iconst 1, 1) := by decide +kernel
theorem d_As_cutBack_10 : decode c_As_cutBack 10 = .ok (.iadd, 1) := by decide +kernel
theorem d_As_cutBack_11 : decode c_As_cutBack 11 = .ok (.putfield 30, 3) := by decide +kernel
theorem d_As_cutBack_14 : decode c_As_cutBack 14 = .ok (.return_, 1) := by decide +kernel
theorem d_Co_init_0 : decode c_Co_init 0 = .ok (.aload_n 0, 1) := by decide +kernel
end
section
theorem d_Co_init_1 : decode c_Co_init 1 = .ok (.invokespecial 3, 3) := by decide +kernel
theorem d_Co_init_4 : decode c_Co_init 4 = .ok (.aload_n 0, 1) := by decide +kernel
theorem d_Co_init_5 : decode c_Co_init 5 = .ok (.aload_n 1, 1) := by decide +kernel
theorem d_Co_init_6 : decode c_Co_init 6 = .ok (.putfield 9, 3) := by decide +kernel
theorem d_Co_init_9 : decode c_Co_init 9 = .ok (.aload_n 0, 1) := by decide +kernel
theorem d_Co_init_10 : decode c_Co_init 10 = .ok (.aload_n 2, 1) := by decide +kernel
theorem d_Co_init_11 : decode c_Co_init 11 = .ok (.putfield 15, 3) := by decide +kernel
theorem d_Co_init_14 : decode c_Co_init 14 = .ok (.return_, 1) := by decide +kernel
theorem d_Co_collect_0 : decode c_Co_collect 0 = .ok (.aload_n 0, 1) := by decide +kernel
theorem d_Co_collect_1 : decode c_Co_collect 1 = .ok (.aconst_null, 1) := by decide +kernel
theorem d_Co_collect_2 : decode c_Co_collect 2 = .ok (.putfield 19, 3) := by decide +kernel
theorem d_Co_collect_5 : decode c_Co_collect 5 = .ok (.aload_n 0, 1) := by decide +kernel
theorem d_Co_collect_6 : decode c_Co_collect 6 = .ok (.aconst_null, 1) := by decide +kernel
theorem d_Co_collect_7 : decode c_Co_collect 7 = .ok (.putfield 23, 3) := by decide +kernel
theorem d_Co_collect_10 : decode c_Co_collect 10 = .ok (.aload_n 0, 1) := by decide +kernel
theorem d_Co_collect_11 : decode c_Co_collect 11 = .ok (.iconst 0, 1) := by decide +kernel
theorem d_Co_collect_12 : decode c_Co_collect 12 = .ok (.putfield 26, 3) := by decide +kernel
theorem d_Co_collect_15 : decode c_Co_collect 15 = .ok (.aload_n 2, 1) := by decide +kernel
theorem d_Co_collect_16 : decode c_Co_collect 16 = .ok (.astore_n 3, 1) := by decide +kernel
theorem d_Co_collect_17 : decode c_Co_collect 17 = .ok (.aload_n 3, 1) := by decide +kernel
theorem d_Co_collect_18 : decode c_Co_collect 18 = .ok (.ifnull 96, 3) := by decide +kernel
theorem d_Co_collect_21 : decode c_Co_collect 21 = .ok (.aload_n 0, 1) := by decide +kernel
theorem d_Co_collect_22 : decode c_Co_collect 22 = .ok (.getfield 26, 3) := by decide +kernel
theorem d_Co_collect_25 : decode c_Co_collect 25 = .ok (.ifCond .ne 89, 3) := by decide +kernel
theorem d_Co_collect_28 : decode c_Co_collect 28 = .ok (.aload_n 3, 1) := by decide +kernel
theorem d_Co_collect_29 : decode c_Co_collect 29 = .ok (.getfield 30, 3) := by decide +kernel
theorem d_Co_collect_32 : decode c_Co_collect 32 = .ok (.iconst 1, 1) := by decide +kernel
theorem d_Co_collect_33 : decode c_Co_collect 33 = .ok (.iadd, 1) := by decide +kernel
theorem d_Co_collect_34 : decode c_Co_collect 34 = .ok (.istore 4, 2) := by decide +kernel
theorem d_Co_collect_36 : decode c_Co_collect 36 = .ok (.iload 4, 2) := by decide +kernel
theorem d_Co_collect_38 : decode c_Co_collect 38 = .ok (.aload_n 3, 1) := by decide +kernel
theorem d_Co_collect_39 : decode c_Co_collect 39 = .ok (.getfield 36, 3) := by decide +kernel
theorem d_Co_collect_42 : decode c_Co_collect 42 = .ok (.if_icmp .ge 64, 3) := by decide +kernel
theorem d_Co_collect_45 : decode c_Co_collect 45 = .ok (.aload_n 0, 1) := by decide +kernel
theorem d_Co_collect_46 : decode c_Co_collect 46 = .ok (.getfield 26, 3) := by decide +kernel
theorem d_Co_collect_49 : decode c_Co_collect 49 = .ok (.ifCond .ne 57, 3) := by decide +kernel
theorem d_Co_collect_52 : decode c_Co_collect 52 = .ok (.aload_n 0, 1) := by decide +kernel
theorem d_Co_collect_53 : decode c_Co_collect 53 = .ok (.getfield 9, 3) := by decide +kernel
theorem d_Co_collect_56 : decode c_Co_collect 56 = .ok (.getfield 39, 3) := by decide +kernel
theorem d_Co_collect_59 : decode c_Co_collect 59 = .ok (.iload 4, 2) := by decide +kernel
theorem d_Co_collect_61 : decode c_Co_collect 61 = .ok (.aaload, 1) := by decide +kernel
theorem d_Co_collect_62 : decode c_Co_collect 62 = .ok (.astore 5, 2) := by decide +kernel
theorem d_Co_collect_64 : decode c_Co_collect 64 = .ok (.aload 5, 2) := by decide +kernel
theorem d_Co_collect_66 : decode c_Co_collect 66 = .ok (.invokevirtual 45, 3) := by decide +kernel
theorem d_Co_collect_69 : decode c_Co_collect 69 = .ok (.ifCond .eq 9, 3) := by decide +kernel
theorem d_Co_collect_72 : decode c_Co_collect 72 = .ok (.aload_n 0, 1) := by decide +kernel
theorem d_Co_collect_73 : decode c_Co_collect 73 = .ok (.aload 5, 2) := by decide +kernel
theorem d_Co_collect_75 : decode c_Co_collect 75 = .ok (.invokevirtual 49, 3) := by decide +kernel
theorem d_Co_collect_78 : decode c_Co_collect 78 = .ok (.aload_n 0, 1) := by decide +kernel
theorem d_Co_collect_79 : decode c_Co_collect 79 = .ok (.aload 5, 2) := by decide +kernel
theorem d_Co_collect_81 : decode c_Co_collect 81 = .ok (.iload_n 1, 1) := by decide +kernel
theorem d_Co_collect_82 : decode c_Co_collect 82 = .ok (.invokevirtual 53, 3) := by decide +kernel
theorem d_Co_collect_85 : decode c_Co_collect 85 = .ok (.ifCond .eq 15, 3) := by decide +kernel
theorem d_Co_collect_88 : decode c_Co_collect 88 = .ok (.iload 4, 2) := by decide +kernel
theorem d_Co_collect_90 : decode c_Co_collect 90 = .ok (.aload 5, 2) := by decide +kernel
theorem d_Co_collect_92 : decode c_Co_collect 92 = .ok (.getfield 36, 3) := by decide +kernel
theorem d_Co_collect_95 : decode c_Co_collect 95 = .ok (.invokestatic 57, 3) := by decide +kernel
theorem d_Co_collect_98 : decode c_Co_collect 98 = .ok (.istore 4, 2) := by decide +kernel
theorem d_Co_collect_100 : decode c_Co_collect 100 = .ok (.iinc 4 1, 3) := by decide +kernel
theorem d_Co_collect_103 : decode c_Co_collect 103 = .ok (.goto (-67), 3) := by decide +kernel
theorem d_Co_collect_106 : decode c_Co_collect 106 = .ok (.aload_n 3, 1) := by decide +kernel
theorem d_Co_collect_107 : decode c_Co_collect 107 = .ok (.getfield 63, 3) := by decide +kernel
theorem d_Co_collect_110 : decode c_Co_collect 110 = .ok (.astore_n 3, 1) := by decide +kernel
theorem d_Co_collect_111 : decode c_Co_collect 111 = .ok (.goto (-94), 3) := by decide +kernel
theorem d_Co_collect_114 : decode c_Co_collect 114 = .ok (.aload_n 0, 1) := by decide +kernel
theorem d_Co_collect_115 : decode c_Co_collect 115 = .ok (.getfield 19, 3) := by decide +kernel
theorem d_Co_collect_118 : decode c_Co_collect 118 = .ok (.areturn, 1) := by decide +kernel
theorem d_Co_isPassedOver_0 : decode c_Co_isPassedOver 0 = .ok (.aload_n 1, 1) := by decide +kernel
theorem d_Co_isPassedOver_1 : decode c_Co_isPassedOver 1 = .ok (.getfield 66, 3) := by decide +kernel
theorem d_Co_isPassedOver_4 : decode c_Co_isPassedOver 4 = .ok (.tableswitch 70 1 4 #[32, 70, 34, 48], 32) := by decide +kernel
theorem d_Co_isPassedOver_36 : decode c_Co_isPassedOver 36 = .ok (.iconst 1, 1) := by decide +kernel
theorem d_Co_isPassedOver_37 : decode c_Co_isPassedOver 37 = .ok (.ireturn, 1) := by decide +kernel
theorem d_Co_isPassedOver_38 : decode c_Co_isPassedOver 38 = .ok (.aload_n 1, 1) := by decide +kernel
theorem d_Co_isPassedOver_39 : decode c_Co_isPassedOver 39 = .ok (.getfield 69, 3) := by decide +kernel
theorem d_Co_isPassedOver_42 : decode c_Co_isPassedOver 42 = .ok (.iload_n 2, 1) := by decide +kernel
theorem d_Co_isPassedOver_43 : decode c_Co_isPassedOver 43 = .ok (.if_icmp .eq 7, 3) := by decide +kernel
theorem d_Co_isPassedOver_46 : decode c_Co_isPassedOver 46 = .ok (.iconst 1, 1) := by decide +kernel
theorem d_Co_isPassedOver_47 : decode c_Co_isPassedOver 47 = .ok (.goto 4, 3) := by decide +kernel
theorem d_Co_isPassedOver_50 : decode c_Co_isPassedOver 50 = .ok (.iconst 0, 1) := by decide +kernel
theorem d_Co_isPassedOver_51 : decode c_Co_isPassedOver 51 = .ok (.ireturn, 1) := by decide +kernel
theorem d_Co_isPassedOver_52 : decode c_Co_isPassedOver 52 = .ok (.aload_n 0, 1) := by decide +kernel
theorem d_Co_isPassedOver_53 : decode c_Co_isPassedOver 53 = .ok (.getfield 15, 3) := by decide +kernel
theorem d_Co_isPassedOver_56 : decode c_Co_isPassedOver 56 = .ok (.aload_n 1, 1) := by decide +kernel
theorem d_Co_isPassedOver_57 : decode c_Co_isPassedOver 57 = .ok (.getfield 69, 3) := by decide +kernel
theorem d_Co_isPassedOver_60 : decode c_Co_isPassedOver 60 = .ok (.iaload, 1) := by decide +kernel
theorem d_Co_isPassedOver_61 : decode c_Co_isPassedOver 61 = .ok (.aload_n 1, 1) := by decide +kernel
theorem d_Co_isPassedOver_62 : decode c_Co_isPassedOver 62 = .ok (.getfield 72, 3) := by decide +kernel
theorem d_Co_isPassedOver_65 : decode c_Co_isPassedOver 65 = .ok (.if_icmp .eq 7, 3) := by decide +kernel
theorem d_Co_isPassedOver_68 : decode c_Co_isPassedOver 68 = .ok (.iconst 1, 1) := by decide +kernel
theorem d_Co_isPassedOver_69 : decode c_Co_isPassedOver 69 = .ok (.goto 4, 3) := by decide +kernel
theorem d_Co_isPassedOver_72 : decode c_Co_isPassedOver 72 = .ok (.iconst 0, 1) := by decide +kernel
theorem d_Co_isPassedOver_73 : decode c_Co_isPassedOver 73 = .ok (.ireturn, 1) := by decide +kernel
theorem d_Co_isPassedOver_74 : decode c_Co_isPassedOver 74 = .ok (.iconst 0, 1) := by decide +kernel
theorem d_Co_isPassedOver_75 : decode c_Co_isPassedOver 75 = .ok (.ireturn, 1) := by decide +kernel
theorem d_Co_enter_0 : decode c_Co_enter 0 = .ok (.aload_n 1, 1) := by decide +kernel
theorem d_Co_enter_1 : decode c_Co_enter 1 = .ok (.aconst_null, 1) := by decide +kernel
theorem d_Co_enter_2 : decode c_Co_enter 2 = .ok (.putfield 63, 3) := by decide +kernel
theorem d_Co_enter_5 : decode c_Co_enter 5 = .ok (.aload_n 0, 1) := by decide +kernel
theorem d_Co_enter_6 : decode c_Co_enter 6 = .ok (.aload_n 1, 1) := by decide +kernel
theorem d_Co_enter_7 : decode c_Co_enter 7 = .ok (.getfield 69, 3) := by decide +kernel
theorem d_Co_enter_10 : decode c_Co_enter 10 = .ok (.invokevirtual 75, 3) := by decide +kernel
theorem d_Co_enter_13 : decode c_Co_enter 13 = .ok (.astore_n 2, 1) := by decide +kernel
theorem d_Co_enter_14 : decode c_Co_enter 14 = .ok (.aload_n 2, 1) := by decide +kernel
theorem d_Co_enter_15 : decode c_Co_enter 15 = .ok (.ifnonnull 11, 3) := by decide +kernel
theorem d_Co_enter_18 : decode c_Co_enter 18 = .ok (.aload_n 0, 1) := by decide +kernel
theorem d_Co_enter_19 : decode c_Co_enter 19 = .ok (.aload_n 1, 1) := by decide +kernel
theorem d_Co_enter_20 : decode c_Co_enter 20 = .ok (.invokevirtual 79, 3) := by decide +kernel
theorem d_Co_enter_23 : decode c_Co_enter 23 = .ok (.goto 46, 3) := by decide +kernel
theorem d_Co_enter_26 : decode c_Co_enter 26 = .ok (.aload_n 2, 1) := by decide +kernel
theorem d_Co_enter_27 : decode c_Co_enter 27 = .ok (.getfield 66, 3) := by decide +kernel
theorem d_Co_enter_30 : decode c_Co_enter 30 = .ok (.aload_n 1, 1) := by decide +kernel
theorem d_Co_enter_31 : decode c_Co_enter 31 = .ok (.getfield 66, 3) := by decide +kernel
theorem d_Co_enter_34 : decode c_Co_enter 34 = .ok (.if_icmp .ne 22, 3) := by decide +kernel
theorem d_Co_enter_37 : decode c_Co_enter 37 = .ok (.aload_n 1, 1) := by decide +kernel
theorem d_Co_enter_38 : decode c_Co_enter 38 = .ok (.getfield 66, 3) := by decide +kernel
theorem d_Co_enter_41 : decode c_Co_enter 41 = .ok (.iconst 2, 1) := by decide +kernel
theorem d_Co_enter_42 : decode c_Co_enter 42 = .ok (.if_icmp .eq 22, 3) := by decide +kernel
theorem d_Co_enter_45 : decode c_Co_enter 45 = .ok (.aload_n 2, 1) := by decide +kernel
theorem d_Co_enter_46 : decode c_Co_enter 46 = .ok (.getfield 72, 3) := by decide +kernel
theorem d_Co_enter_49 : decode c_Co_enter 49 = .ok (.aload_n 1, 1) := by decide +kernel
theorem d_Co_enter_50 : decode c_Co_enter 50 = .ok (.getfield 72, 3) := by decide +kernel
theorem d_Co_enter_53 : decode c_Co_enter 53 = .ok (.if_icmp .eq 11, 3) := by decide +kernel
theorem d_Co_enter_56 : decode c_Co_enter 56 = .ok (.aload_n 0, 1) := by decide +kernel
theorem d_Co_enter_57 : decode c_Co_enter 57 = .ok (.iconst 1, 1) := by decide +kernel
theorem d_Co_enter_58 : decode c_Co_enter 58 = .ok (.putfield 26, 3) := by decide +kernel
theorem d_Co_enter_61 : decode c_Co_enter 61 = .ok (.goto 8, 3) := by decide +kernel
theorem d_Co_enter_64 : decode c_Co_enter 64 = .ok (.aload_n 2, 1) := by decide +kernel
theorem d_Co_enter_65 : decode c_Co_enter 65 = .ok (.aload_n 1, 1) := by decide +kernel
theorem d_Co_enter_66 : decode c_Co_enter 66 = .ok (.invokestatic 82, 3) := by decide +kernel
theorem d_Co_enter_69 : decode c_Co_enter 69 = .ok (.return_, 1) := by decide +kernel
theorem d_Co_putBehind_0 : decode c_Co_putBehind 0 = .ok (.aload_n 0, 1) := by decide +kernel
theorem d_Co_putBehind_1 : decode c_Co_putBehind 1 = .ok (.astore_n 2, 1) := by decide +kernel
theorem d_Co_putBehind_2 : decode c_Co_putBehind 2 = .ok (.aload_n 2, 1) := by decide +kernel
theorem d_Co_putBehind_3 : decode c_Co_putBehind 3 = .ok (.getfield 63, 3) := by decide +kernel
theorem d_Co_putBehind_6 : decode c_Co_putBehind 6 = .ok (.ifnull 11, 3) := by decide +kernel
theorem d_Co_putBehind_9 : decode c_Co_putBehind 9 = .ok (.aload_n 2, 1) := by decide +kernel
theorem d_Co_putBehind_10 : decode c_Co_putBehind 10 = .ok (.getfield 63, 3) := by decide +kernel
theorem d_Co_putBehind_13 : decode c_Co_putBehind 13 = .ok (.astore_n 2, 1) := by decide +kernel
theorem d_Co_putBehind_14 : decode c_Co_putBehind 14 = .ok (.goto (-12), 3) := by decide +kernel
theorem d_Co_putBehind_17 : decode c_Co_putBehind 17 = .ok (.aload_n 2, 1) := by decide +kernel
theorem d_Co_putBehind_18 : decode c_Co_putBehind 18 = .ok (.aload_n 1, 1) := by decide +kernel
theorem d_Co_putBehind_19 : decode c_Co_putBehind 19 = .ok (.putfield 63, 3) := by decide +kernel
theorem d_Co_putBehind_22 : decode c_Co_putBehind 22 = .ok (.return_, 1) := by decide +kernel
theorem d_Co_entryNamed_0 : decode c_Co_entryNamed 0 = .ok (.aload_n 0, 1) := by decide +kernel
theorem d_Co_entryNamed_1 : decode c_Co_entryNamed 1 = .ok (.getfield 19, 3) := by decide +kernel
theorem d_Co_entryNamed_4 : decode c_Co_entryNamed 4 = .ok (.astore_n 2, 1) := by decide +kernel
theorem d_Co_entryNamed_5 : decode c_Co_entryNamed 5 = .ok (.aload_n 2, 1) := by decide +kernel
theorem d_Co_entryNamed_6 : decode c_Co_entryNamed 6 = .ok (.ifnull 21, 3) := by decide +kernel
theorem d_Co_entryNamed_9 : decode c_Co_entryNamed 9 = .ok (.aload_n 2, 1) := by decide +kernel
theorem d_Co_entryNamed_10 : decode c_Co_entryNamed 10 = .ok (.getfield 69, 3) := by decide +kernel
theorem d_Co_entryNamed_13 : decode c_Co_entryNamed 13 = .ok (.iload_n 1, 1) := by decide +kernel
theorem d_Co_entryNamed_14 : decode c_Co_entryNamed 14 = .ok (.if_icmp .ne 5, 3) := by decide +kernel
theorem d_Co_entryNamed_17 : decode c_Co_entryNamed 17 = .ok (.aload_n 2, 1) := by decide +kernel
theorem d_Co_entryNamed_18 : decode c_Co_entryNamed 18 = .ok (.areturn, 1) := by decide +kernel
theorem d_Co_entryNamed_19 : decode c_Co_entryNamed 19 = .ok (.aload_n 2, 1) := by decide +kernel
theorem d_Co_entryNamed_20 : decode c_Co_entryNamed 20 = .ok (.getfield 86, 3) := by decide +kernel
theorem d_Co_entryNamed_23 : decode c_Co_entryNamed 23 = .ok (.astore_n 2, 1) := by decide +kernel
theorem d_Co_entryNamed_24 : decode c_Co_entryNamed 24 = .ok (.goto (-19), 3) := by decide +kernel
theorem d_Co_entryNamed_27 : decode c_Co_entryNamed 27 = .ok (.aconst_null, 1) := by decide +kernel
theorem d_Co_entryNamed_28 : decode c_Co_entryNamed 28 = .ok (.areturn, 1) := by decide +kernel
theorem d_Co_addEntry_0 : decode c_Co_addEntry 0 = .ok (.aload_n 1, 1) := by decide +kernel
theorem d_Co_addEntry_1 : decode c_Co_addEntry 1 = .ok (.aconst_null, 1) := by decide +kernel
theorem d_Co_addEntry_2 : decode c_Co_addEntry 2 = .ok (.putfield 86, 3) := by decide +kernel
theorem d_Co_addEntry_5 : decode c_Co_addEntry 5 = .ok (.aload_n 0, 1) := by decide +kernel
theorem d_Co_addEntry_6 : decode c_Co_addEntry 6 = .ok (.getfield 23, 3) := by decide +kernel
theorem d_Co_addEntry_9 : decode c_Co_addEntry 9 = .ok (.ifnonnull 11, 3) := by decide +kernel
theorem d_Co_addEntry_12 : decode c_Co_addEntry 12 = .ok (.aload_n 0, 1) := by decide +kernel
theorem d_Co_addEntry_13 : decode c_Co_addEntry 13 = .ok (.aload_n 1, 1) := by decide +kernel
theorem d_Co_addEntry_14 : decode c_Co_addEntry 14 = .ok (.putfield 19, 3) := by decide +kernel
theorem d_Co_addEntry_17 : decode c_Co_addEntry 17 = .ok (.goto 11, 3) := by decide +kernel
theorem d_Co_addEntry_20 : decode c_Co_addEntry 20 = .ok (.aload_n 0, 1) := by decide +kernel
theorem d_Co_addEntry_21 : decode c_Co_addEntry 21 = .ok (.getfield 23, 3) := by decide +kernel
theorem d_Co_addEntry_24 : decode c_Co_addEntry 24 = .ok (.aload_n 1, 1) := by decide +kernel
theorem d_Co_addEntry_25 : decode c_Co_addEntry 25 = .ok (.putfield 86, 3) := by decide +kernel
theorem d_Co_addEntry_28 : decode c_Co_addEntry 28 = .ok (.aload_n 0, 1) := by decide +kernel
theorem d_Co_addEntry_29 : decode c_Co_addEntry 29 = .ok (.aload_n 1, 1) := by decide +kernel
theorem d_Co_addEntry_30 : decode c_Co_addEntry 30 = .ok (.putfield 23, 3) := by decide +kernel
theorem d_Co_addEntry_33 : decode c_Co_addEntry 33 = .ok (.return_, 1) := by decide +kernel
theorem d_Pa_init_0 : decode c_Pa_init 0 = .ok (.aload_n 0, 1) := by decide +kernel
theorem d_Pa_init_1 : decode c_Pa_init 1 = .ok (.invokespecial 3, 3) := by decide +kernel
theorem d_Pa_init_4 : decode c_Pa_init 4 = .ok (.aload_n 0, 1) := by decide +kernel
theorem d_Pa_init_5 : decode c_Pa_init 5 = .ok (.bipush 26, 2) := by decide +kernel
theorem d_Pa_init_7 : decode c_Pa_init 7 = .ok (.newarray .int, 2) := by decide +kernel
theorem d_Pa_init_9 : decode c_Pa_init 9 = .ok (.putfield 9, 3) := by decide +kernel
theorem d_Pa_init_12 : decode c_Pa_init 12 = .ok (.aload_n 0, 1) := by decide +kernel
theorem d_Pa_init_13 : decode c_Pa_init 13 = .ok (.bipush 60, 2) := by decide +kernel
theorem d_Pa_init_15 : decode c_Pa_init 15 = .ok (.newarray .int, 2) := by decide +kernel
theorem d_Pa_init_17 : decode c_Pa_init 17 = .ok (.putfield 15, 3) := by decide +kernel
theorem d_Pa_init_20 : decode c_Pa_init 20 = .ok (.aload_n 0, 1) := by decide +kernel
theorem d_Pa_init_21 : decode c_Pa_init 21 = .ok (.sipush 1560, 3) := by decide +kernel
theorem d_Pa_init_24 : decode c_Pa_init 24 = .ok (.newarray .int, 2) := by decide +kernel
theorem d_Pa_init_26 : decode c_Pa_init 26 = .ok (.putfield 18, 3) := by decide +kernel
theorem d_Pa_init_29 : decode c_Pa_init 29 = .ok (.return_, 1) := by decide +kernel
theorem d_Pa_forgetAll_0 : decode c_Pa_forgetAll 0 = .ok (.aload_n 0, 1) := by decide +kernel
theorem d_Pa_forgetAll_1 : decode c_Pa_forgetAll 1 = .ok (.iconst 0, 1) := by decide +kernel
theorem d_Pa_forgetAll_2 : decode c_Pa_forgetAll 2 = .ok (.putfield 21, 3) := by decide +kernel
theorem d_Pa_forgetAll_5 : decode c_Pa_forgetAll 5 = .ok (.aload_n 0, 1) := by decide +kernel
theorem d_Pa_forgetAll_6 : decode c_Pa_forgetAll 6 = .ok (.iconst 0, 1) := by decide +kernel
theorem d_Pa_forgetAll_7 : decode c_Pa_forgetAll 7 = .ok (.putfield 25, 3) := by decide +kernel
theorem d_Pa_forgetAll_10 : decode c_Pa_forgetAll 10 = .ok (.return_, 1) := by decide +kernel
theorem d_Pa_goInto_0 : decode c_Pa_goInto 0 = .ok (.aload_n 0, 1) := by decide +kernel
theorem d_Pa_goInto_1 : decode c_Pa_goInto 1 = .ok (.getfield 21, 3) := by decide +kernel
theorem d_Pa_goInto_4 : decode c_Pa_goInto 4 = .ok (.bipush 26, 2) := by decide +kernel
theorem d_Pa_goInto_6 : decode c_Pa_goInto 6 = .ok (.if_icmp .ge 23, 3) := by decide +kernel
theorem d_Pa_goInto_9 : decode c_Pa_goInto 9 = .ok (.aload_n 0, 1) := by decide +kernel
theorem d_Pa_goInto_10 : decode c_Pa_goInto 10 = .ok (.getfield 9, 3) := by decide +kernel
theorem d_Pa_goInto_13 : decode c_Pa_goInto 13 = .ok (.aload_n 0, 1) := by decide +kernel
theorem d_Pa_goInto_14 : decode c_Pa_goInto 14 = .ok (.getfield 21, 3) := by decide +kernel
theorem d_Pa_goInto_17 : decode c_Pa_goInto 17 = .ok (.iload_n 1, 1) := by decide +kernel
theorem d_Pa_goInto_18 : decode c_Pa_goInto 18 = .ok (.iastore, 1) := by decide +kernel
theorem d_Pa_goInto_19 : decode c_Pa_goInto 19 = .ok (.aload_n 0, 1) := by decide +kernel
theorem d_Pa_goInto_20 : decode c_Pa_goInto 20 = .ok (.dup, 1) := by decide +kernel
theorem d_Pa_goInto_21 : decode c_Pa_goInto 21 = .ok (.getfield 21, 3) := by decide +kernel
theorem d_Pa_goInto_24 : decode c_Pa_goInto 24 = .ok (.iconst 1, 1) := by decide +kernel
theorem d_Pa_goInto_25 : decode c_Pa_goInto 25 = .ok (.iadd, 1) := by decide +kernel
theorem d_Pa_goInto_26 : decode c_Pa_goInto 26 = .ok (.putfield 21, 3) := by decide +kernel
theorem d_Pa_goInto_29 : decode c_Pa_goInto 29 = .ok (.return_, 1) := by decide +kernel
theorem d_Pa_goOut_0 : decode c_Pa_goOut 0 = .ok (.aload_n 0, 1) := by decide +kernel
theorem d_Pa_goOut_1 : decode c_Pa_goOut 1 = .ok (.iconst 0, 1) := by decide +kernel
theorem d_Pa_goOut_2 : decode c_Pa_goOut 2 = .ok (.aload_n 0, 1) := by decide +kernel
theorem d_Pa_goOut_3 : decode c_Pa_goOut 3 = .ok (.getfield 21, 3) := by decide +kernel
theorem d_Pa_goOut_6 : decode c_Pa_goOut 6 = .ok (.iconst 1, 1) := by decide +kernel
theorem d_Pa_goOut_7 : decode c_Pa_goOut 7 = .ok (.isub, 1) := by decide +kernel
theorem d_Pa_goOut_8 : decode c_Pa_goOut 8 = .ok (.invokestatic 28, 3) := by decide +kernel
theorem d_Pa_goOut_11 : decode c_Pa_goOut 11 = .ok (.putfield 21, 3) := by decide +kernel
theorem d_Pa_goOut_14 : decode c_Pa_goOut 14 = .ok (.return_, 1) := by decide +kernel
theorem d_Pa_noteHere_0 : decode c_Pa_noteHere 0 = .ok (.aload_n 0, 1) := by decide +kernel
theorem d_Pa_noteHere_1 : decode c_Pa_noteHere 1 = .ok (.getfield 25, 3) := by decide +kernel
theorem d_Pa_noteHere_4 : decode c_Pa_noteHere 4 = .ok (.bipush 60, 2) := by decide +kernel
theorem d_Pa_noteHere_6 : decode c_Pa_noteHere 6 = .ok (.if_icmp .ge 49, 3) := by decide +kernel
theorem d_Pa_noteHere_9 : decode c_Pa_noteHere 9 = .ok (.aload_n 0, 1) := by decide +kernel
theorem d_Pa_noteHere_10 : decode c_Pa_noteHere 10 = .ok (.getfield 9, 3) := by decide +kernel
theorem d_Pa_noteHere_13 : decode c_Pa_noteHere 13 = .ok (.iconst 0, 1) := by decide +kernel
theorem d_Pa_noteHere_14 : decode c_Pa_noteHere 14 = .ok (.aload_n 0, 1) := by decide +kernel
theorem d_Pa_noteHere_15 : decode c_Pa_noteHere 15 = .ok (.getfield 18, 3) := by decide +kernel
theorem d_Pa_noteHere_18 : decode c_Pa_noteHere 18 = .ok (.aload_n 0, 1) := by decide +kernel
theorem d_Pa_noteHere_19 : decode c_Pa_noteHere 19 = .ok (.getfield 25, 3) := by decide +kernel
theorem d_Pa_noteHere_22 : decode c_Pa_noteHere 22 = .ok (.bipush 26, 2) := by decide +kernel
theorem d_Pa_noteHere_24 : decode c_Pa_noteHere 24 = .ok (.imul, 1) := by decide +kernel
theorem d_Pa_noteHere_25 : decode c_Pa_noteHere 25 = .ok (.aload_n 0, 1) := by decide +kernel
theorem d_Pa_noteHere_26 : decode c_Pa_noteHere 26 = .ok (.getfield 21, 3) := by decide +kernel
theorem d_Pa_noteHere_29 : decode c_Pa_noteHere 29 = .ok (.invokestatic 34, 3) := by decide +kernel
theorem d_Pa_noteHere_32 : decode c_Pa_noteHere 32 = .ok (.aload_n 0, 1) := by decide +kernel
theorem d_Pa_noteHere_33 : decode c_Pa_noteHere 33 = .ok (.getfield 15, 3) := by decide +kernel
theorem d_Pa_noteHere_36 : decode c_Pa_noteHere 36 = .ok (.aload_n 0, 1) := by decide +kernel
theorem d_Pa_noteHere_37 : decode c_Pa_noteHere 37 = .ok (.getfield 25, 3) := by decide +kernel
theorem d_Pa_noteHere_40 : decode c_Pa_noteHere 40 = .ok (.aload_n 0, 1) := by decide +kernel
theorem d_Pa_noteHere_41 : decode c_Pa_noteHere 41 = .ok (.getfield 21, 3) := by decide +kernel
theorem d_Pa_noteHere_44 : decode c_Pa_noteHere 44 = .ok (.iastore, 1) := by decide +kernel
theorem d_Pa_noteHere_45 : decode c_Pa_noteHere 45 = .ok (.aload_n 0, 1) := by decide +kernel
theorem d_Pa_noteHere_46 : decode c_Pa_noteHere 46 = .ok (.dup, 1) := by decide +kernel
theorem d_Pa_noteHere_47 : decode c_Pa_noteHere 47 = .ok (.getfield 25, 3) := by decide +kernel
theorem d_Pa_noteHere_50 : decode c_Pa_noteHere 50 = .ok (.iconst 1, 1) := by decide +kernel
theorem d_Pa_noteHere_51 : decode c_Pa_noteHere 51 = .ok (.iadd, 1) := by decide +kernel
theorem d_Pa_noteHere_52 : decode c_Pa_noteHere 52 = .ok (.putfield 25, 3) := by decide +kernel
theorem d_Pa_noteHere_55 : decode c_Pa_noteHere 55 = .ok (.return_, 1) := by decide +kernel
theorem d_Pa_partOf_0 : decode c_Pa_partOf 0 = .ok (.iload_n 1, 1) := by decide +kernel
theorem d_Pa_partOf_1 : decode c_Pa_partOf 1 = .ok (.iconst 0, 1) := by decide +kernel
theorem d_Pa_partOf_2 : decode c_Pa_partOf 2 = .ok (.aload_n 0, 1) := by decide +kernel
theorem d_Pa_partOf_3 : decode c_Pa_partOf 3 = .ok (.getfield 25, 3) := by decide +kernel
theorem d_Pa_partOf_6 : decode c_Pa_partOf 6 = .ok (.iconst 1, 1) := by decide +kernel
theorem d_Pa_partOf_7 : decode c_Pa_partOf 7 = .ok (.isub, 1) := by decide +kernel
theorem d_Pa_partOf_8 : decode c_Pa_partOf 8 = .ok (.invokestatic 40, 3) := by decide +kernel
theorem d_Pa_partOf_11 : decode c_Pa_partOf 11 = .ok (.ifCond .eq 19, 3) := by decide +kernel
theorem d_Pa_partOf_14 : decode c_Pa_partOf 14 = .ok (.iload_n 2, 1) := by decide +kernel
theorem d_Pa_partOf_15 : decode c_Pa_partOf 15 = .ok (.iconst 0, 1) := by decide +kernel
theorem d_Pa_partOf_16 : decode c_Pa_partOf 16 = .ok (.aload_n 0, 1) := by decide +kernel
theorem d_Pa_partOf_17 : decode c_Pa_partOf 17 = .ok (.getfield 15, 3) := by decide +kernel
theorem d_Pa_partOf_20 : decode c_Pa_partOf 20 = .ok (.iload_n 1, 1) := by decide +kernel
theorem d_Pa_partOf_21 : decode c_Pa_partOf 21 = .ok (.iaload, 1) := by decide +kernel
theorem d_Pa_partOf_22 : decode c_Pa_partOf 22 = .ok (.iconst 1, 1) := by decide +kernel
theorem d_Pa_partOf_23 : decode c_Pa_partOf 23 = .ok (.isub, 1) := by decide +kernel
theorem d_Pa_partOf_24 : decode c_Pa_partOf 24 = .ok (.invokestatic 40, 3) := by decide +kernel
theorem d_Pa_partOf_27 : decode c_Pa_partOf 27 = .ok (.ifCond .ne 5, 3) := by decide +kernel
theorem d_Pa_partOf_30 : decode c_Pa_partOf 30 = .ok (.iconst (-1), 1) := by decide +kernel
theorem d_Pa_partOf_31 : decode c_Pa_partOf 31 = .ok (.ireturn, 1) := by decide +kernel
theorem d_Pa_partOf_32 : decode c_Pa_partOf 32 = .ok (.aload_n 0, 1) := by decide +kernel
theorem d_Pa_partOf_33 : decode c_Pa_partOf 33 = .ok (.getfield 18, 3) := by decide +kernel
theorem d_Pa_partOf_36 : decode c_Pa_partOf 36 = .ok (.iload_n 1, 1) := by decide +kernel
theorem d_Pa_partOf_37 : decode c_Pa_partOf 37 = .ok (.bipush 26, 2) := by decide +kernel
theorem d_Pa_partOf_39 : decode c_Pa_partOf 39 = .ok (.imul, 1) := by decide +kernel
theorem d_Pa_partOf_40 : decode c_Pa_partOf 40 = .ok (.iload_n 2, 1) := by decide +kernel
theorem d_Pa_partOf_41 : decode c_Pa_partOf 41 = .ok (.iadd, 1) := by decide +kernel
theorem d_Pa_partOf_42 : decode c_Pa_partOf 42 = .ok (.iaload, 1) := by decide +kernel
theorem d_Pa_partOf_43 : decode c_Pa_partOf 43 = .ok (.ireturn, 1) := by decide +kernel
theorem d_Pl_init_0 : decode c_Pl_init 0 = .ok (.aload_n 0, 1) := by decide +kernel
theorem d_Pl_init_1 : decode c_Pl_init 1 = .ok (.invokespecial 3, 3) := by decide +kernel
theorem d_Pl_init_4 : decode c_Pl_init 4 = .ok (.aload_n 0, 1) := by decide +kernel
theorem d_Pl_init_5 : decode c_Pl_init 5 = .ok (.bipush 61, 2) := by decide +kernel
theorem d_Pl_init_7 : decode c_Pl_init 7 = .ok (.anewarray 9, 3) := by decide +kernel
theorem d_Pl_init_10 : decode c_Pl_init 10 = .ok (.putfield 11, 3) := by decide +kernel
theorem d_Pl_init_13 : decode c_Pl_init 13 = .ok (.aload_n 0, 1) := by decide +kernel
theorem d_Pl_init_14 : decode c_Pl_init 14 = .ok (.iconst 4, 1) := by decide +kernel
theorem d_Pl_init_15 : decode c_Pl_init 15 = .ok (.newarray .boolean, 2) := by decide +kernel
theorem d_Pl_init_17 : decode c_Pl_init 17 = .ok (.putfield 17, 3) := by decide +kernel
theorem d_Pl_init_20 : decode c_Pl_init 20 = .ok (.aload_n 0, 1) := by decide +kernel
theorem d_Pl_init_21 : decode c_Pl_init 21 = .ok (.iconst (-1), 1) := by decide +kernel
theorem d_Pl_init_22 : decode c_Pl_init 22 = .ok (.putfield 21, 3) := by decide +kernel
theorem d_Pl_init_25 : decode c_Pl_init 25 = .ok (.aload_n 0, 1) := by decide +kernel
theorem d_Pl_init_26 : decode c_Pl_init 26 = .ok (.aload_n 1, 1) := by decide +kernel
theorem d_Pl_init_27 : decode c_Pl_init 27 = .ok (.putfield 25, 3) := by decide +kernel
theorem d_Pl_init_30 : decode c_Pl_init 30 = .ok (.aload_n 0, 1) := by decide +kernel
theorem d_Pl_init_31 : decode c_Pl_init 31 = .ok (.aload_n 2, 1) := by decide +kernel
theorem d_Pl_init_32 : decode c_Pl_init 32 = .ok (.putfield 29, 3) := by decide +kernel
theorem d_Pl_init_35 : decode c_Pl_init 35 = .ok (.iconst 0, 1) := by decide +kernel
theorem d_Pl_init_36 : decode c_Pl_init 36 = .ok (.istore_n 3, 1) := by decide +kernel
theorem d_Pl_init_37 : decode c_Pl_init 37 = .ok (.iload_n 3, 1) := by decide +kernel
theorem d_Pl_init_38 : decode c_Pl_init 38 = .ok (.aload_n 0, 1) := by decide +kernel
theorem d_Pl_init_39 : decode c_Pl_init 39 = .ok (.getfield 11, 3) := by decide +kernel
theorem d_Pl_init_42 : decode c_Pl_init 42 = .ok (.arraylength, 1) := by decide +kernel
theorem d_Pl_init_43 : decode c_Pl_init 43 = .ok (.if_icmp .ge 23, 3) := by decide +kernel
theorem d_Pl_init_46 : decode c_Pl_init 46 = .ok (.aload_n 0, 1) := by decide +kernel
theorem d_Pl_init_47 : decode c_Pl_init 47 = .ok (.getfield 11, 3) := by decide +kernel
theorem d_Pl_init_50 : decode c_Pl_init 50 = .ok (.iload_n 3, 1) := by decide +kernel
theorem d_Pl_init_51 : decode c_Pl_init 51 = .ok (.new 9, 3) := by decide +kernel
theorem d_Pl_init_54 : decode c_Pl_init 54 = .ok (.dup, 1) := by decide +kernel
theorem d_Pl_init_55 : decode c_Pl_init 55 = .ok (.iload_n 3, 1) := by decide +kernel
theorem d_Pl_init_56 : decode c_Pl_init 56 = .ok (.invokespecial 33, 3) := by decide +kernel
theorem d_Pl_init_59 : decode c_Pl_init 59 = .ok (.aastore, 1) := by decide +kernel
theorem d_Pl_init_60 : decode c_Pl_init 60 = .ok (.iinc 3 1, 3) := by decide +kernel
theorem d_Pl_init_63 : decode c_Pl_init 63 = .ok (.goto (-26), 3) := by decide +kernel
theorem d_Pl_init_66 : decode c_Pl_init 66 = .ok (.aload_n 0, 1) := by decide +kernel
theorem d_Pl_init_67 : decode c_Pl_init 67 = .ok (.getfield 11, 3) := by decide +kernel
theorem d_Pl_init_70 : decode c_Pl_init 70 = .ok (.iconst 0, 1) := by decide +kernel
theorem d_Pl_init_71 : decode c_Pl_init 71 = .ok (.aaload, 1) := by decide +kernel
theorem d_Pl_init_72 : decode c_Pl_init 72 = .ok (.iconst 1, 1) := by decide +kernel
theorem d_Pl_init_73 : decode c_Pl_init 73 = .ok (.putfield 36, 3) := by decide +kernel
theorem d_Pl_init_76 : decode c_Pl_init 76 = .ok (.aload_n 0, 1) := by decide +kernel
theorem d_Pl_init_77 : decode c_Pl_init 77 = .ok (.getfield 11, 3) := by decide +kernel
theorem d_Pl_init_80 : decode c_Pl_init 80 = .ok (.iconst 0, 1) := by decide +kernel
theorem d_Pl_init_81 : decode c_Pl_init 81 = .ok (.aaload, 1) := by decide +kernel
theorem d_Pl_init_82 : decode c_Pl_init 82 = .ok (.aload_n 0, 1) := by decide +kernel
theorem d_Pl_init_83 : decode c_Pl_init 83 = .ok (.getfield 11, 3) := by decide +kernel
theorem d_Pl_init_86 : decode c_Pl_init 86 = .ok (.iconst 0, 1) := by decide +kernel
theorem d_Pl_init_87 : decode c_Pl_init 87 = .ok (.aaload, 1) := by decide +kernel
theorem d_Pl_init_88 : decode c_Pl_init 88 = .ok (.putfield 39, 3) := by decide +kernel
theorem d_Pl_init_91 : decode c_Pl_init 91 = .ok (.return_, 1) := by decide +kernel
theorem d_Pl_root_0 : decode c_Pl_root 0 = .ok (.aload_n 0, 1) := by decide +kernel
theorem d_Pl_root_1 : decode c_Pl_root 1 = .ok (.getfield 11, 3) := by decide +kernel
theorem d_Pl_root_4 : decode c_Pl_root 4 = .ok (.iconst 0, 1) := by decide +kernel
theorem d_Pl_root_5 : decode c_Pl_root 5 = .ok (.aaload, 1) := by decide +kernel
theorem d_Pl_root_6 : decode c_Pl_root 6 = .ok (.areturn, 1) := by decide +kernel
theorem d_Pl_writeOutQuery_0 : decode c_Pl_writeOutQuery 0 = .ok (.aload_n 0, 1) := by decide +kernel
theorem d_Pl_writeOutQuery_1 : decode c_Pl_writeOutQuery 1 = .ok (.getfield 29, 3) := by decide +kernel
theorem d_Pl_writeOutQuery_4 : decode c_Pl_writeOutQuery 4 = .ok (.iconst 0, 1) := by decide +kernel
theorem d_Pl_writeOutQuery_5 : decode c_Pl_writeOutQuery 5 = .ok (.invokevirtual 43, 3) := by decide +kernel
theorem d_Pl_writeOutQuery_8 : decode c_Pl_writeOutQuery 8 = .ok (.ifCond .ne 10, 3) := by decide +kernel
theorem d_Pl_writeOutQuery_11 : decode c_Pl_writeOutQuery 11 = .ok (.aload_n 0, 1) := by decide +kernel
theorem d_Pl_writeOutQuery_12 : decode c_Pl_writeOutQuery 12 = .ok (.iconst 0, 1) := by decide +kernel
theorem d_Pl_writeOutQuery_13 : decode c_Pl_writeOutQuery 13 = .ok (.putfield 21, 3) := by decide +kernel
theorem d_Pl_writeOutQuery_16 : decode c_Pl_writeOutQuery 16 = .ok (.iconst 0, 1) := by decide +kernel
theorem d_Pl_writeOutQuery_17 : decode c_Pl_writeOutQuery 17 = .ok (.ireturn, 1) := by decide +kernel
theorem d_Pl_writeOutQuery_18 : decode c_Pl_writeOutQuery 18 = .ok (.iconst 0, 1) := by decide +kernel
theorem d_Pl_writeOutQuery_19 : decode c_Pl_writeOutQuery 19 = .ok (.istore_n 2, 1) := by decide +kernel
theorem d_Pl_writeOutQuery_20 : decode c_Pl_writeOutQuery 20 = .ok (.iload_n 2, 1) := by decide +kernel
theorem d_Pl_writeOutQuery_21 : decode c_Pl_writeOutQuery 21 = .ok (.iconst 4, 1) := by decide +kernel
theorem d_Pl_writeOutQuery_22 : decode c_Pl_writeOutQuery 22 = .ok (.if_icmp .ge 16, 3) := by decide +kernel
theorem d_Pl_writeOutQuery_25 : decode c_Pl_writeOutQuery 25 = .ok (.aload_n 0, 1) := by decide +kernel
theorem d_Pl_writeOutQuery_26 : decode c_Pl_writeOutQuery 26 = .ok (.getfield 17, 3) := by decide +kernel
theorem d_Pl_writeOutQuery_29 : decode c_Pl_writeOutQuery 29 = .ok (.iload_n 2, 1) := by decide +kernel
theorem d_Pl_writeOutQuery_30 : decode c_Pl_writeOutQuery 30 = .ok (.iconst 0, 1) := by decide +kernel
theorem d_Pl_writeOutQuery_31 : decode c_Pl_writeOutQuery 31 = .ok (.bastore, 1) := by decide +kernel
theorem d_Pl_writeOutQuery_32 : decode c_Pl_writeOutQuery 32 = .ok (.iinc 2 1, 3) := by decide +kernel
theorem d_Pl_writeOutQuery_35 : decode c_Pl_writeOutQuery 35 = .ok (.goto (-15), 3) := by decide +kernel
theorem d_Pl_writeOutQuery_38 : decode c_Pl_writeOutQuery 38 = .ok (.aload_n 0, 1) := by decide +kernel
theorem d_Pl_writeOutQuery_39 : decode c_Pl_writeOutQuery 39 = .ok (.getfield 11, 3) := by decide +kernel
theorem d_Pl_writeOutQuery_42 : decode c_Pl_writeOutQuery 42 = .ok (.iconst 0, 1) := by decide +kernel
theorem d_Pl_writeOutQuery_43 : decode c_Pl_writeOutQuery 43 = .ok (.aaload, 1) := by decide +kernel
theorem d_Pl_writeOutQuery_44 : decode c_Pl_writeOutQuery 44 = .ok (.iload_n 1, 1) := by decide +kernel
theorem d_Pl_writeOutQuery_45 : decode c_Pl_writeOutQuery 45 = .ok (.putfield 49, 3) := by decide +kernel
theorem d_Pl_writeOutQuery_48 : decode c_Pl_writeOutQuery 48 = .ok (.aload_n 0, 1) := by decide +kernel
theorem d_Pl_writeOutQuery_49 : decode c_Pl_writeOutQuery 49 = .ok (.iconst 1, 1) := by decide +kernel
theorem d_Pl_writeOutQuery_50 : decode c_Pl_writeOutQuery 50 = .ok (.putfield 52, 3) := by decide +kernel
theorem d_Pl_writeOutQuery_53 : decode c_Pl_writeOutQuery 53 = .ok (.aload_n 0, 1) := by decide +kernel
theorem d_Pl_writeOutQuery_54 : decode c_Pl_writeOutQuery 54 = .ok (.iconst (-1), 1) := by decide +kernel
theorem d_Pl_writeOutQuery_55 : decode c_Pl_writeOutQuery 55 = .ok (.putfield 21, 3) := by decide +kernel
theorem d_Pl_writeOutQuery_58 : decode c_Pl_writeOutQuery 58 = .ok (.aload_n 0, 1) := by decide +kernel
theorem d_Pl_writeOutQuery_59 : decode c_Pl_writeOutQuery 59 = .ok (.iconst 0, 1) := by decide +kernel
theorem d_Pl_writeOutQuery_60 : decode c_Pl_writeOutQuery 60 = .ok (.aload_n 0, 1) := by decide +kernel
theorem d_Pl_writeOutQuery_61 : decode c_Pl_writeOutQuery 61 = .ok (.getfield 11, 3) := by decide +kernel
theorem d_Pl_writeOutQuery_64 : decode c_Pl_writeOutQuery 64 = .ok (.iconst 0, 1) := by decide +kernel
theorem d_Pl_writeOutQuery_65 : decode c_Pl_writeOutQuery 65 = .ok (.aaload, 1) := by decide +kernel
theorem d_Pl_writeOutQuery_66 : decode c_Pl_writeOutQuery 66 = .ok (.invokevirtual 55, 3) := by decide +kernel
theorem d_Pl_writeOutQuery_69 : decode c_Pl_writeOutQuery 69 = .ok (.ireturn, 1) := by decide +kernel
theorem d_Pl_writeOut_0 : decode c_Pl_writeOut 0 = .ok (.aload_n 2, 1) := by decide +kernel
theorem d_Pl_writeOut_1 : decode c_Pl_writeOut 1 = .ok (.astore_n 3, 1) := by decide +kernel
theorem d_Pl_writeOut_2 : decode c_Pl_writeOut 2 = .ok (.aload_n 0, 1) := by decide +kernel
theorem d_Pl_writeOut_3 : decode c_Pl_writeOut 3 = .ok (.getfield 17, 3) := by decide +kernel
theorem d_Pl_writeOut_6 : decode c_Pl_writeOut 6 = .ok (.iload_n 1, 1) := by decide +kernel
theorem d_Pl_writeOut_7 : decode c_Pl_writeOut 7 = .ok (.iconst 1, 1) := by decide +kernel
theorem d_Pl_writeOut_8 : decode c_Pl_writeOut 8 = .ok (.bastore, 1) := by decide +kernel
theorem d_Pl_writeOut_9 : decode c_Pl_writeOut 9 = .ok (.iconst 0, 1) := by decide +kernel
theorem d_Pl_writeOut_10 : decode c_Pl_writeOut 10 = .ok (.istore 4, 2) := by decide +kernel
theorem d_Pl_writeOut_12 : decode c_Pl_writeOut 12 = .ok (.iload 4, 2) := by decide +kernel
theorem d_Pl_writeOut_14 : decode c_Pl_writeOut 14 = .ok (.aload_n 0, 1) := by decide +kernel
theorem d_Pl_writeOut_15 : decode c_Pl_writeOut 15 = .ok (.getfield 29, 3) := by decide +kernel
theorem d_Pl_writeOut_18 : decode c_Pl_writeOut 18 = .ok (.getfield 59, 3) := by decide +kernel
theorem d_Pl_writeOut_21 : decode c_Pl_writeOut 21 = .ok (.iload_n 1, 1) := by decide +kernel
theorem d_Pl_writeOut_22 : decode c_Pl_writeOut 22 = .ok (.iaload, 1) := by decide +kernel
theorem d_Pl_writeOut_23 : decode c_Pl_writeOut 23 = .ok (.if_icmp .ge 150, 3) := by decide +kernel
theorem d_Pl_writeOut_26 : decode c_Pl_writeOut 26 = .ok (.iload_n 1, 1) := by decide +kernel
theorem d_Pl_writeOut_27 : decode c_Pl_writeOut 27 = .ok (.bipush 16, 2) := by decide +kernel
theorem d_Pl_writeOut_29 : decode c_Pl_writeOut 29 = .ok (.imul, 1) := by decide +kernel
theorem d_Pl_writeOut_30 : decode c_Pl_writeOut 30 = .ok (.iload 4, 2) := by decide +kernel
theorem d_Pl_writeOut_32 : decode c_Pl_writeOut 32 = .ok (.iadd, 1) := by decide +kernel
theorem d_Pl_writeOut_33 : decode c_Pl_writeOut 33 = .ok (.istore 5, 2) := by decide +kernel
theorem d_Pl_writeOut_35 : decode c_Pl_writeOut 35 = .ok (.aload_n 0, 1) := by decide +kernel
theorem d_Pl_writeOut_36 : decode c_Pl_writeOut 36 = .ok (.getfield 52, 3) := by decide +kernel
theorem d_Pl_writeOut_39 : decode c_Pl_writeOut 39 = .ok (.aload_n 0, 1) := by decide +kernel
theorem d_Pl_writeOut_40 : decode c_Pl_writeOut 40 = .ok (.getfield 11, 3) := by decide +kernel
theorem d_Pl_writeOut_43 : decode c_Pl_writeOut 43 = .ok (.arraylength, 1) := by decide +kernel
theorem d_Pl_writeOut_44 : decode c_Pl_writeOut 44 = .ok (.if_icmp .ge 21, 3) := by decide +kernel
theorem d_Pl_writeOut_47 : decode c_Pl_writeOut 47 = .ok (.aload_n 0, 1) := by decide +kernel
theorem d_Pl_writeOut_48 : decode c_Pl_writeOut 48 = .ok (.aload_n 0, 1) := by decide +kernel
theorem d_Pl_writeOut_49 : decode c_Pl_writeOut 49 = .ok (.iload 5, 2) := by decide +kernel
theorem d_Pl_writeOut_51 : decode c_Pl_writeOut 51 = .ok (.aload_n 3, 1) := by decide +kernel
theorem d_Pl_writeOut_52 : decode c_Pl_writeOut 52 = .ok (.invokevirtual 63, 3) := by decide +kernel
theorem d_Pl_writeOut_55 : decode c_Pl_writeOut 55 = .ok (.aload_n 3, 1) := by decide +kernel
theorem d_Pl_writeOut_56 : decode c_Pl_writeOut 56 = .ok (.getfield 49, 3) := by decide +kernel
theorem d_Pl_writeOut_59 : decode c_Pl_writeOut 59 = .ok (.invokevirtual 67, 3) := by decide +kernel
theorem d_Pl_writeOut_62 : decode c_Pl_writeOut 62 = .ok (.ifCond .ne 11, 3) := by decide +kernel
theorem d_Pl_writeOut_65 : decode c_Pl_writeOut 65 = .ok (.aload_n 0, 1) := by decide +kernel
theorem d_Pl_writeOut_66 : decode c_Pl_writeOut 66 = .ok (.iload 5, 2) := by decide +kernel
theorem d_Pl_writeOut_68 : decode c_Pl_writeOut 68 = .ok (.putfield 21, 3) := by decide +kernel
theorem d_Pl_writeOut_71 : decode c_Pl_writeOut 71 = .ok (.iconst 0, 1) := by decide +kernel
theorem d_Pl_writeOut_72 : decode c_Pl_writeOut 72 = .ok (.ireturn, 1) := by decide +kernel
theorem d_Pl_writeOut_73 : decode c_Pl_writeOut 73 = .ok (.aload_n 0, 1) := by decide +kernel
theorem d_Pl_writeOut_74 : decode c_Pl_writeOut 74 = .ok (.getfield 11, 3) := by decide +kernel
theorem d_Pl_writeOut_77 : decode c_Pl_writeOut 77 = .ok (.aload_n 0, 1) := by decide +kernel
theorem d_Pl_writeOut_78 : decode c_Pl_writeOut 78 = .ok (.getfield 52, 3) := by decide +kernel
theorem d_Pl_writeOut_81 : decode c_Pl_writeOut 81 = .ok (.iconst 1, 1) := by decide +kernel
theorem d_Pl_writeOut_82 : decode c_Pl_writeOut 82 = .ok (.isub, 1) := by decide +kernel
theorem d_Pl_writeOut_83 : decode c_Pl_writeOut 83 = .ok (.aaload, 1) := by decide +kernel
theorem d_Pl_writeOut_84 : decode c_Pl_writeOut 84 = .ok (.astore 6, 2) := by decide +kernel
theorem d_Pl_writeOut_86 : decode c_Pl_writeOut 86 = .ok (.aload 6, 2) := by decide +kernel
theorem d_Pl_writeOut_88 : decode c_Pl_writeOut 88 = .ok (.aload_n 0, 1) := by decide +kernel
theorem d_Pl_writeOut_89 : decode c_Pl_writeOut 89 = .ok (.aload 6, 2) := by decide +kernel
theorem d_Pl_writeOut_91 : decode c_Pl_writeOut 91 = .ok (.aload_n 3, 1) := by decide +kernel
theorem d_Pl_writeOut_92 : decode c_Pl_writeOut 92 = .ok (.getfield 49, 3) := by decide +kernel
theorem d_Pl_writeOut_95 : decode c_Pl_writeOut 95 = .ok (.invokevirtual 71, 3) := by decide +kernel
theorem d_Pl_writeOut_98 : decode c_Pl_writeOut 98 = .ok (.putfield 49, 3) := by decide +kernel
theorem d_Pl_writeOut_101 : decode c_Pl_writeOut 101 = .ok (.aload 6, 2) := by decide +kernel
theorem d_Pl_writeOut_103 : decode c_Pl_writeOut 103 = .ok (.getfield 36, 3) := by decide +kernel
theorem d_Pl_writeOut_106 : decode c_Pl_writeOut 106 = .ok (.iconst 5, 1) := by decide +kernel
theorem d_Pl_writeOut_107 : decode c_Pl_writeOut 107 = .ok (.if_icmp .ne 19, 3) := by decide +kernel
theorem d_Pl_writeOut_110 : decode c_Pl_writeOut 110 = .ok (.aload_n 0, 1) := by decide +kernel
theorem d_Pl_writeOut_111 : decode c_Pl_writeOut 111 = .ok (.aload 6, 2) := by decide +kernel
theorem d_Pl_writeOut_113 : decode c_Pl_writeOut 113 = .ok (.getfield 75, 3) := by decide +kernel
theorem d_Pl_writeOut_116 : decode c_Pl_writeOut 116 = .ok (.aload 6, 2) := by decide +kernel
theorem d_Pl_writeOut_118 : decode c_Pl_writeOut 118 = .ok (.invokevirtual 55, 3) := by decide +kernel
theorem d_Pl_writeOut_121 : decode c_Pl_writeOut 121 = .ok (.ifCond .ne 46, 3) := by decide +kernel
theorem d_Pl_writeOut_124 : decode c_Pl_writeOut 124 = .ok (.iconst 0, 1) := by decide +kernel
theorem d_Pl_writeOut_125 : decode c_Pl_writeOut 125 = .ok (.ireturn, 1) := by decide +kernel
theorem d_Pl_writeOut_126 : decode c_Pl_writeOut 126 = .ok (.aload 6, 2) := by decide +kernel
theorem d_Pl_writeOut_128 : decode c_Pl_writeOut 128 = .ok (.getfield 36, 3) := by decide +kernel
theorem d_Pl_writeOut_131 : decode c_Pl_writeOut 131 = .ok (.bipush 6, 2) := by decide +kernel
theorem d_Pl_writeOut_133 : decode c_Pl_writeOut 133 = .ok (.if_icmp .ne 20, 3) := by decide +kernel
theorem d_Pl_writeOut_136 : decode c_Pl_writeOut 136 = .ok (.aload_n 3, 1) := by decide +kernel
theorem d_Pl_writeOut_137 : decode c_Pl_writeOut 137 = .ok (.aload 6, 2) := by decide +kernel
theorem d_Pl_writeOut_139 : decode c_Pl_writeOut 139 = .ok (.getfield 78, 3) := by decide +kernel
theorem d_Pl_writeOut_142 : decode c_Pl_writeOut 142 = .ok (.putfield 81, 3) := by decide +kernel
theorem d_Pl_writeOut_145 : decode c_Pl_writeOut 145 = .ok (.aload_n 3, 1) := by decide +kernel
theorem d_Pl_writeOut_146 : decode c_Pl_writeOut 146 = .ok (.getfield 39, 3) := by decide +kernel
theorem d_Pl_writeOut_149 : decode c_Pl_writeOut 149 = .ok (.astore_n 3, 1) := by decide +kernel
theorem d_Pl_writeOut_150 : decode c_Pl_writeOut 150 = .ok (.goto 17, 3) := by decide +kernel
theorem d_Pl_writeOut_153 : decode c_Pl_writeOut 153 = .ok (.aload 6, 2) := by decide +kernel
theorem d_Pl_writeOut_155 : decode c_Pl_writeOut 155 = .ok (.getfield 36, 3) := by decide +kernel
theorem d_Pl_writeOut_158 : decode c_Pl_writeOut 158 = .ok (.invokestatic 84, 3) := by decide +kernel
theorem d_Pl_writeOut_161 : decode c_Pl_writeOut 161 = .ok (.ifCond .eq 6, 3) := by decide +kernel
theorem d_Pl_writeOut_164 : decode c_Pl_writeOut 164 = .ok (.aload 6, 2) := by decide +kernel
theorem d_Pl_writeOut_166 : decode c_Pl_writeOut 166 = .ok (.astore_n 3, 1) := by decide +kernel
theorem d_Pl_writeOut_167 : decode c_Pl_writeOut 167 = .ok (.iinc 4 1, 3) := by decide +kernel
theorem d_Pl_writeOut_170 : decode c_Pl_writeOut 170 = .ok (.goto (-158), 3) := by decide +kernel
theorem d_Pl_writeOut_173 : decode c_Pl_writeOut 173 = .ok (.aload_n 0, 1) := by decide +kernel
theorem d_Pl_writeOut_174 : decode c_Pl_writeOut 174 = .ok (.getfield 17, 3) := by decide +kernel
theorem d_Pl_writeOut_177 : decode c_Pl_writeOut 177 = .ok (.iload_n 1, 1) := by decide +kernel
theorem d_Pl_writeOut_178 : decode c_Pl_writeOut 178 = .ok (.iconst 0, 1) := by decide +kernel
theorem d_Pl_writeOut_179 : decode c_Pl_writeOut 179 = .ok (.bastore, 1) := by decide +kernel
theorem d_Pl_writeOut_180 : decode c_Pl_writeOut 180 = .ok (.iconst 1, 1) := by decide +kernel
theorem d_Pl_writeOut_181 : decode c_Pl_writeOut 181 = .ok (.ireturn, 1) := by decide +kernel
theorem d_Pl_takeStep_0 : decode c_Pl_takeStep 0 = .ok (.aload_n 0, 1) := by decide +kernel
theorem d_Pl_takeStep_1 : decode c_Pl_takeStep 1 = .ok (.getfield 11, 3) := by decide +kernel
theorem d_Pl_takeStep_4 : decode c_Pl_takeStep 4 = .ok (.aload_n 0, 1) := by decide +kernel
theorem d_Pl_takeStep_5 : decode c_Pl_takeStep 5 = .ok (.getfield 52, 3) := by decide +kernel
theorem d_Pl_takeStep_8 : decode c_Pl_takeStep 8 = .ok (.aaload, 1) := by decide +kernel
theorem d_Pl_takeStep_9 : decode c_Pl_takeStep 9 = .ok (.astore_n 3, 1) := by decide +kernel
theorem d_Pl_takeStep_10 : decode c_Pl_takeStep 10 = .ok (.aload_n 3, 1) := by decide +kernel
theorem d_Pl_takeStep_11 : decode c_Pl_takeStep 11 = .ok (.aload_n 0, 1) := by decide +kernel
theorem d_Pl_takeStep_12 : decode c_Pl_takeStep 12 = .ok (.getfield 29, 3) := by decide +kernel
theorem d_Pl_takeStep_15 : decode c_Pl_takeStep 15 = .ok (.getfield 87, 3) := by decide +kernel
theorem d_Pl_takeStep_18 : decode c_Pl_takeStep 18 = .ok (.iload_n 1, 1) := by decide +kernel
theorem d_Pl_takeStep_19 : decode c_Pl_takeStep 19 = .ok (.iaload, 1) := by decide +kernel
theorem d_Pl_takeStep_20 : decode c_Pl_takeStep 20 = .ok (.putfield 36, 3) := by decide +kernel
theorem d_Pl_takeStep_23 : decode c_Pl_takeStep 23 = .ok (.aload_n 3, 1) := by decide +kernel
theorem d_Pl_takeStep_24 : decode c_Pl_takeStep 24 = .ok (.aload_n 0, 1) := by decide +kernel
theorem d_Pl_takeStep_25 : decode c_Pl_takeStep 25 = .ok (.getfield 29, 3) := by decide +kernel
theorem d_Pl_takeStep_28 : decode c_Pl_takeStep 28 = .ok (.getfield 90, 3) := by decide +kernel
theorem d_Pl_takeStep_31 : decode c_Pl_takeStep 31 = .ok (.iload_n 1, 1) := by decide +kernel
theorem d_Pl_takeStep_32 : decode c_Pl_takeStep 32 = .ok (.iaload, 1) := by decide +kernel
theorem d_Pl_takeStep_33 : decode c_Pl_takeStep 33 = .ok (.putfield 75, 3) := by decide +kernel
theorem d_Pl_takeStep_36 : decode c_Pl_takeStep 36 = .ok (.aload_n 3, 1) := by decide +kernel
theorem d_Pl_takeStep_37 : decode c_Pl_takeStep 37 = .ok (.aload_n 0, 1) := by decide +kernel
theorem d_Pl_takeStep_38 : decode c_Pl_takeStep 38 = .ok (.getfield 29, 3) := by decide +kernel
theorem d_Pl_takeStep_41 : decode c_Pl_takeStep 41 = .ok (.getfield 93, 3) := by decide +kernel
theorem d_Pl_takeStep_44 : decode c_Pl_takeStep 44 = .ok (.iload_n 1, 1) := by decide +kernel
theorem d_Pl_takeStep_45 : decode c_Pl_takeStep 45 = .ok (.iaload, 1) := by decide +kernel
theorem d_Pl_takeStep_46 : decode c_Pl_takeStep 46 = .ok (.putfield 96, 3) := by decide +kernel
theorem d_Pl_takeStep_49 : decode c_Pl_takeStep 49 = .ok (.aload_n 3, 1) := by decide +kernel
theorem d_Pl_takeStep_50 : decode c_Pl_takeStep 50 = .ok (.aload_n 2, 1) := by decide +kernel
theorem d_Pl_takeStep_51 : decode c_Pl_takeStep 51 = .ok (.putfield 39, 3) := by decide +kernel
theorem d_Pl_takeStep_54 : decode c_Pl_takeStep 54 = .ok (.aload_n 3, 1) := by decide +kernel
theorem d_Pl_takeStep_55 : decode c_Pl_takeStep 55 = .ok (.aload_n 3, 1) := by decide +kernel
theorem d_Pl_takeStep_56 : decode c_Pl_takeStep 56 = .ok (.getfield 78, 3) := by decide +kernel
theorem d_Pl_takeStep_59 : decode c_Pl_takeStep 59 = .ok (.putfield 81, 3) := by decide +kernel
theorem d_Pl_takeStep_62 : decode c_Pl_takeStep 62 = .ok (.aload_n 0, 1) := by decide +kernel
theorem d_Pl_takeStep_63 : decode c_Pl_takeStep 63 = .ok (.dup, 1) := by decide +kernel
theorem d_Pl_takeStep_64 : decode c_Pl_takeStep 64 = .ok (.getfield 52, 3) := by decide +kernel
theorem d_Pl_takeStep_67 : decode c_Pl_takeStep 67 = .ok (.iconst 1, 1) := by decide +kernel
theorem d_Pl_takeStep_68 : decode c_Pl_takeStep 68 = .ok (.iadd, 1) := by decide +kernel
theorem d_Pl_takeStep_69 : decode c_Pl_takeStep 69 = .ok (.putfield 52, 3) := by decide +kernel
theorem d_Pl_takeStep_72 : decode c_Pl_takeStep 72 = .ok (.aload_n 3, 1) := by decide +kernel
theorem d_Pl_takeStep_73 : decode c_Pl_takeStep 73 = .ok (.areturn, 1) := by decide +kernel
theorem d_Pl_isRight_0 : decode c_Pl_isRight 0 = .ok (.aload_n 1, 1) := by decide +kernel
theorem d_Pl_isRight_1 : decode c_Pl_isRight 1 = .ok (.getfield 36, 3) := by decide +kernel
theorem d_Pl_isRight_4 : decode c_Pl_isRight 4 = .ok (.tableswitch 112 0 5 #[40, 40, 112, 47, 112, 80], 40) := by decide +kernel
theorem d_Pl_isRight_44 : decode c_Pl_isRight 44 = .ok (.aload_n 0, 1) := by decide +kernel
theorem d_Pl_isRight_45 : decode c_Pl_isRight 45 = .ok (.aload_n 1, 1) := by decide +kernel
theorem d_Pl_isRight_46 : decode c_Pl_isRight 46 = .ok (.iload_n 2, 1) := by decide +kernel
theorem d_Pl_isRight_47 : decode c_Pl_isRight 47 = .ok (.invokevirtual 99, 3) := by decide +kernel
theorem d_Pl_isRight_50 : decode c_Pl_isRight 50 = .ok (.ireturn, 1) := by decide +kernel
theorem d_Pl_isRight_51 : decode c_Pl_isRight 51 = .ok (.aload_n 0, 1) := by decide +kernel
theorem d_Pl_isRight_52 : decode c_Pl_isRight 52 = .ok (.getfield 25, 3) := by decide +kernel
theorem d_Pl_isRight_55 : decode c_Pl_isRight 55 = .ok (.aload_n 1, 1) := by decide +kernel
theorem d_Pl_isRight_56 : decode c_Pl_isRight 56 = .ok (.getfield 75, 3) := by decide +kernel
theorem d_Pl_isRight_59 : decode c_Pl_isRight 59 = .ok (.invokevirtual 102, 3) := by decide +kernel
theorem d_Pl_isRight_62 : decode c_Pl_isRight 62 = .ok (.ifCond .eq 20, 3) := by decide +kernel
theorem d_Pl_isRight_65 : decode c_Pl_isRight 65 = .ok (.iload_n 2, 1) := by decide +kernel
theorem d_Pl_isRight_66 : decode c_Pl_isRight 66 = .ok (.aload_n 1, 1) := by decide +kernel
theorem d_Pl_isRight_67 : decode c_Pl_isRight 67 = .ok (.getfield 75, 3) := by decide +kernel
theorem d_Pl_isRight_70 : decode c_Pl_isRight 70 = .ok (.if_icmp .eq 8, 3) := by decide +kernel
theorem d_Pl_isRight_73 : decode c_Pl_isRight 73 = .ok (.iload_n 2, 1) := by decide +kernel
theorem d_Pl_isRight_74 : decode c_Pl_isRight 74 = .ok (.iconst 5, 1) := by decide +kernel
theorem d_Pl_isRight_75 : decode c_Pl_isRight 75 = .ok (.if_icmp .ne 7, 3) := by decide +kernel
theorem d_Pl_isRight_78 : decode c_Pl_isRight 78 = .ok (.iconst 1, 1) := by decide +kernel
theorem d_Pl_isRight_79 : decode c_Pl_isRight 79 = .ok (.goto 4, 3) := by decide +kernel
theorem d_Pl_isRight_82 : decode c_Pl_isRight 82 = .ok (.iconst 0, 1) := by decide +kernel
theorem d_Pl_isRight_83 : decode c_Pl_isRight 83 = .ok (.ireturn, 1) := by decide +kernel
theorem d_Pl_isRight_84 : decode c_Pl_isRight 84 = .ok (.aload_n 0, 1) := by decide +kernel
theorem d_Pl_isRight_85 : decode c_Pl_isRight 85 = .ok (.getfield 29, 3) := by decide +kernel
theorem d_Pl_isRight_88 : decode c_Pl_isRight 88 = .ok (.aload_n 1, 1) := by decide +kernel
theorem d_Pl_isRight_89 : decode c_Pl_isRight 89 = .ok (.getfield 75, 3) := by decide +kernel
theorem d_Pl_isRight_92 : decode c_Pl_isRight 92 = .ok (.invokevirtual 43, 3) := by decide +kernel
theorem d_Pl_isRight_95 : decode c_Pl_isRight 95 = .ok (.ifCond .eq 19, 3) := by decide +kernel
theorem d_Pl_isRight_98 : decode c_Pl_isRight 98 = .ok (.aload_n 0, 1) := by decide +kernel
theorem d_Pl_isRight_99 : decode c_Pl_isRight 99 = .ok (.getfield 17, 3) := by decide +kernel
theorem d_Pl_isRight_102 : decode c_Pl_isRight 102 = .ok (.aload_n 1, 1) := by decide +kernel
theorem d_Pl_isRight_103 : decode c_Pl_isRight 103 = .ok (.getfield 75, 3) := by decide +kernel
theorem d_Pl_isRight_106 : decode c_Pl_isRight 106 = .ok (.baload, 1) := by decide +kernel
theorem d_Pl_isRight_107 : decode c_Pl_isRight 107 = .ok (.ifCond .ne 7, 3) := by decide +kernel
theorem d_Pl_isRight_110 : decode c_Pl_isRight 110 = .ok (.iconst 1, 1) := by decide +kernel
theorem d_Pl_isRight_111 : decode c_Pl_isRight 111 = .ok (.goto 4, 3) := by decide +kernel
theorem d_Pl_isRight_114 : decode c_Pl_isRight 114 = .ok (.iconst 0, 1) := by decide +kernel
theorem d_Pl_isRight_115 : decode c_Pl_isRight 115 = .ok (.ireturn, 1) := by decide +kernel
theorem d_Pl_isRight_116 : decode c_Pl_isRight 116 = .ok (.iconst 1, 1) := by decide +kernel
theorem d_Pl_isRight_117 : decode c_Pl_isRight 117 = .ok (.ireturn, 1) := by decide +kernel
theorem d_Pl_findField_0 : decode c_Pl_findField 0 = .ok (.aload_n 1, 1) := by decide +kernel
theorem d_Pl_findField_1 : decode c_Pl_findField 1 = .ok (.aload_n 0, 1) := by decide +kernel
theorem d_Pl_findField_2 : decode c_Pl_findField 2 = .ok (.getfield 25, 3) := by decide +kernel
theorem d_Pl_findField_5 : decode c_Pl_findField 5 = .ok (.iload_n 2, 1) := by decide +kernel
theorem d_Pl_findField_6 : decode c_Pl_findField 6 = .ok (.aload_n 1, 1) := by decide +kernel
theorem d_Pl_findField_7 : decode c_Pl_findField 7 = .ok (.getfield 96, 3) := by decide +kernel
theorem d_Pl_findField_10 : decode c_Pl_findField 10 = .ok (.invokevirtual 107, 3) := by decide +kernel
theorem d_Pl_findField_13 : decode c_Pl_findField 13 = .ok (.putfield 111, 3) := by decide +kernel
theorem d_Pl_findField_16 : decode c_Pl_findField 16 = .ok (.aload_n 1, 1) := by decide +kernel
theorem d_Pl_findField_17 : decode c_Pl_findField 17 = .ok (.aload_n 0, 1) := by decide +kernel
theorem d_Pl_findField_18 : decode c_Pl_findField 18 = .ok (.getfield 25, 3) := by decide +kernel
theorem d_Pl_findField_21 : decode c_Pl_findField 21 = .ok (.iload_n 2, 1) := by decide +kernel
theorem d_Pl_findField_22 : decode c_Pl_findField 22 = .ok (.aload_n 1, 1) := by decide +kernel
theorem d_Pl_findField_23 : decode c_Pl_findField 23 = .ok (.getfield 96, 3) := by decide +kernel
theorem d_Pl_findField_26 : decode c_Pl_findField 26 = .ok (.invokevirtual 114, 3) := by decide +kernel
theorem d_Pl_findField_29 : decode c_Pl_findField 29 = .ok (.putfield 118, 3) := by decide +kernel
theorem d_Pl_findField_32 : decode c_Pl_findField 32 = .ok (.aload_n 1, 1) := by decide +kernel
theorem d_Pl_findField_33 : decode c_Pl_findField 33 = .ok (.getfield 36, 3) := by decide +kernel
theorem d_Pl_findField_36 : decode c_Pl_findField 36 = .ok (.ifCond .ne 16, 3) := by decide +kernel
theorem d_Pl_findField_39 : decode c_Pl_findField 39 = .ok (.aload_n 1, 1) := by decide +kernel
theorem d_Pl_findField_40 : decode c_Pl_findField 40 = .ok (.getfield 111, 3) := by decide +kernel
theorem d_Pl_findField_43 : decode c_Pl_findField 43 = .ok (.ifCond .ne 7, 3) := by decide +kernel
theorem d_Pl_findField_46 : decode c_Pl_findField 46 = .ok (.iconst 1, 1) := by decide +kernel
theorem d_Pl_findField_47 : decode c_Pl_findField 47 = .ok (.goto 4, 3) := by decide +kernel
theorem d_Pl_findField_50 : decode c_Pl_findField 50 = .ok (.iconst 0, 1) := by decide +kernel
theorem d_Pl_findField_51 : decode c_Pl_findField 51 = .ok (.ireturn, 1) := by decide +kernel
theorem d_Pl_findField_52 : decode c_Pl_findField 52 = .ok (.aload_n 1, 1) := by decide +kernel
theorem d_Pl_findField_53 : decode c_Pl_findField 53 = .ok (.getfield 111, 3) := by decide +kernel
theorem d_Pl_findField_56 : decode c_Pl_findField 56 = .ok (.iconst 1, 1) := by decide +kernel
theorem d_Pl_findField_57 : decode c_Pl_findField 57 = .ok (.if_icmp .eq 11, 3) := by decide +kernel
theorem d_Pl_findField_60 : decode c_Pl_findField 60 = .ok (.aload_n 1, 1) := by decide +kernel
theorem d_Pl_findField_61 : decode c_Pl_findField 61 = .ok (.getfield 111, 3) := by decide +kernel
theorem d_Pl_findField_64 : decode c_Pl_findField 64 = .ok (.iconst 2, 1) := by decide +kernel
theorem d_Pl_findField_65 : decode c_Pl_findField 65 = .ok (.if_icmp .ne 7, 3) := by decide +kernel
theorem d_Pl_findField_68 : decode c_Pl_findField 68 = .ok (.iconst 1, 1) := by decide +kernel
theorem d_Pl_findField_69 : decode c_Pl_findField 69 = .ok (.goto 4, 3) := by decide +kernel
theorem d_Pl_findField_72 : decode c_Pl_findField 72 = .ok (.iconst 0, 1) := by decide +kernel
theorem d_Pl_findField_73 : decode c_Pl_findField 73 = .ok (.ireturn, 1) := by decide +kernel
theorem d_Pl_typeBehind_0 : decode c_Pl_typeBehind 0 = .ok (.aload_n 1, 1) := by decide +kernel
theorem d_Pl_typeBehind_1 : decode c_Pl_typeBehind 1 = .ok (.getfield 36, 3) := by decide +kernel
theorem d_Pl_typeBehind_4 : decode c_Pl_typeBehind 4 = .ok (.iconst 3, 1) := by decide +kernel
theorem d_Pl_typeBehind_5 : decode c_Pl_typeBehind 5 = .ok (.if_icmp .ne 8, 3) := by decide +kernel
theorem d_Pl_typeBehind_8 : decode c_Pl_typeBehind 8 = .ok (.aload_n 1, 1) := by decide +kernel
theorem d_Pl_typeBehind_9 : decode c_Pl_typeBehind 9 = .ok (.getfield 75, 3) := by decide +kernel
theorem d_Pl_typeBehind_12 : decode c_Pl_typeBehind 12 = .ok (.ireturn, 1) := by decide +kernel
theorem d_Pl_typeBehind_13 : decode c_Pl_typeBehind 13 = .ok (.aload_n 1, 1) := by decide +kernel
theorem d_Pl_typeBehind_14 : decode c_Pl_typeBehind 14 = .ok (.getfield 36, 3) := by decide +kernel
theorem d_Pl_typeBehind_17 : decode c_Pl_typeBehind 17 = .ok (.iconst 1, 1) := by decide +kernel
theorem d_Pl_typeBehind_18 : decode c_Pl_typeBehind 18 = .ok (.if_icmp .ne 18, 3) := by decide +kernel
theorem d_Pl_typeBehind_21 : decode c_Pl_typeBehind 21 = .ok (.aload_n 0, 1) := by decide +kernel
theorem d_Pl_typeBehind_22 : decode c_Pl_typeBehind 22 = .ok (.getfield 25, 3) := by decide +kernel
theorem d_Pl_typeBehind_25 : decode c_Pl_typeBehind 25 = .ok (.iload_n 2, 1) := by decide +kernel
theorem d_Pl_typeBehind_26 : decode c_Pl_typeBehind 26 = .ok (.aload_n 1, 1) := by decide +kernel
theorem d_Pl_typeBehind_27 : decode c_Pl_typeBehind 27 = .ok (.getfield 96, 3) := by decide +kernel
theorem d_Pl_typeBehind_30 : decode c_Pl_typeBehind 30 = .ok (.invokevirtual 122, 3) := by decide +kernel
theorem d_Pl_typeBehind_33 : decode c_Pl_typeBehind 33 = .ok (.goto 4, 3) := by decide +kernel
theorem d_Pl_typeBehind_36 : decode c_Pl_typeBehind 36 = .ok (.iload_n 2, 1) := by decide +kernel
theorem d_Pl_typeBehind_37 : decode c_Pl_typeBehind 37 = .ok (.ireturn, 1) := by decide +kernel
theorem d_Ro_init_0 : decode c_Ro_init 0 = .ok (.aload_n 0, 1) := by decide +kernel
theorem d_Ro_init_1 : decode c_Ro_init 1 = .ok (.invokespecial 3, 3) := by decide +kernel
theorem d_Ro_init_4 : decode c_Ro_init 4 = .ok (.aload_n 0, 1) := by decide +kernel
theorem d_Ro_init_5 : decode c_Ro_init 5 = .ok (.bipush 12, 2) := by decide +kernel
theorem d_Ro_init_7 : decode c_Ro_init 7 = .ok (.newarray .int, 2) := by decide +kernel
theorem d_Ro_init_9 : decode c_Ro_init 9 = .ok (.putfield 9, 3) := by decide +kernel
theorem d_Ro_init_12 : decode c_Ro_init 12 = .ok (.aload_n 0, 1) := by decide +kernel
theorem d_Ro_init_13 : decode c_Ro_init 13 = .ok (.bipush 48, 2) := by decide +kernel
theorem d_Ro_init_15 : decode c_Ro_init 15 = .ok (.newarray .int, 2) := by decide +kernel
theorem d_Ro_init_17 : decode c_Ro_init 17 = .ok (.putfield 15, 3) := by decide +kernel
theorem d_Ro_init_20 : decode c_Ro_init 20 = .ok (.aload_n 0, 1) := by decide +kernel
theorem d_Ro_init_21 : decode c_Ro_init 21 = .ok (.bipush 48, 2) := by decide +kernel
theorem d_Ro_init_23 : decode c_Ro_init 23 = .ok (.newarray .int, 2) := by decide +kernel
theorem d_Ro_init_25 : decode c_Ro_init 25 = .ok (.putfield 18, 3) := by decide +kernel
theorem d_Ro_init_28 : decode c_Ro_init 28 = .ok (.aload_n 0, 1) := by decide +kernel
theorem d_Ro_init_29 : decode c_Ro_init 29 = .ok (.sipush 192, 3) := by decide +kernel
theorem d_Ro_init_32 : decode c_Ro_init 32 = .ok (.newarray .int, 2) := by decide +kernel
theorem d_Ro_init_34 : decode c_Ro_init 34 = .ok (.putfield 21, 3) := by decide +kernel
theorem d_Ro_init_37 : decode c_Ro_init 37 = .ok (.return_, 1) := by decide +kernel
theorem d_Ro_hasRow_0 : decode c_Ro_hasRow 0 = .ok (.iload_n 1, 1) := by decide +kernel
theorem d_Ro_hasRow_1 : decode c_Ro_hasRow 1 = .ok (.iconst 1, 1) := by decide +kernel
theorem d_Ro_hasRow_2 : decode c_Ro_hasRow 2 = .ok (.aload_n 0, 1) := by decide +kernel
theorem d_Ro_hasRow_3 : decode c_Ro_hasRow 3 = .ok (.getfield 24, 3) := by decide +kernel
theorem d_Ro_hasRow_6 : decode c_Ro_hasRow 6 = .ok (.invokestatic 28, 3) := by decide +kernel
theorem d_Ro_hasRow_9 : decode c_Ro_hasRow 9 = .ok (.ireturn, 1) := by decide +kernel
theorem d_Ro_typeOf_0 : decode c_Ro_typeOf 0 = .ok (.aload_n 0, 1) := by decide +kernel
theorem d_Ro_typeOf_1 : decode c_Ro_typeOf 1 = .ok (.getfield 9, 3) := by decide +kernel
theorem d_Ro_typeOf_4 : decode c_Ro_typeOf 4 = .ok (.iload_n 1, 1) := by decide +kernel
theorem d_Ro_typeOf_5 : decode c_Ro_typeOf 5 = .ok (.iconst 1, 1) := by decide +kernel
theorem d_Ro_typeOf_6 : decode c_Ro_typeOf 6 = .ok (.isub, 1) := by decide +kernel
theorem d_Ro_typeOf_7 : decode c_Ro_typeOf 7 = .ok (.iaload, 1) := by decide +kernel
theorem d_Ro_typeOf_8 : decode c_Ro_typeOf 8 = .ok (.ireturn, 1) := by decide +kernel
theorem d_Ro_addRow_0 : decode c_Ro_addRow 0 = .ok (.aload_n 0, 1) := by decide +kernel
theorem d_Ro_addRow_1 : decode c_Ro_addRow 1 = .ok (.getfield 9, 3) := by decide +kernel
theorem d_Ro_addRow_4 : decode c_Ro_addRow 4 = .ok (.aload_n 0, 1) := by decide +kernel
theorem d_Ro_addRow_5 : decode c_Ro_addRow 5 = .ok (.getfield 24, 3) := by decide +kernel
theorem d_Ro_addRow_8 : decode c_Ro_addRow 8 = .ok (.iload_n 1, 1) := by decide +kernel
theorem d_Ro_addRow_9 : decode c_Ro_addRow 9 = .ok (.iastore, 1) := by decide +kernel
theorem d_Ro_addRow_10 : decode c_Ro_addRow 10 = .ok (.aload_n 0, 1) := by decide +kernel
theorem d_Ro_addRow_11 : decode c_Ro_addRow 11 = .ok (.dup, 1) := by decide +kernel
theorem d_Ro_addRow_12 : decode c_Ro_addRow 12 = .ok (.getfield 24, 3) := by decide +kernel
theorem d_Ro_addRow_15 : decode c_Ro_addRow 15 = .ok (.iconst 1, 1) := by decide +kernel
theorem d_Ro_addRow_16 : decode c_Ro_addRow 16 = .ok (.iadd, 1) := by decide +kernel
theorem d_Ro_addRow_17 : decode c_Ro_addRow 17 = .ok (.putfield 24, 3) := by decide +kernel
theorem d_Ro_addRow_20 : decode c_Ro_addRow 20 = .ok (.iconst 0, 1) := by decide +kernel
theorem d_Ro_addRow_21 : decode c_Ro_addRow 21 = .ok (.istore_n 2, 1) := by decide +kernel
theorem d_Ro_addRow_22 : decode c_Ro_addRow 22 = .ok (.iload_n 2, 1) := by decide +kernel
theorem d_Ro_addRow_23 : decode c_Ro_addRow 23 = .ok (.iconst 4, 1) := by decide +kernel
theorem d_Ro_addRow_24 : decode c_Ro_addRow 24 = .ok (.if_icmp .ge 18, 3) := by decide +kernel
theorem d_Ro_addRow_27 : decode c_Ro_addRow 27 = .ok (.aload_n 0, 1) := by decide +kernel
theorem d_Ro_addRow_28 : decode c_Ro_addRow 28 = .ok (.aload_n 0, 1) := by decide +kernel
theorem d_Ro_addRow_29 : decode c_Ro_addRow 29 = .ok (.getfield 24, 3) := by decide +kernel
theorem d_Ro_addRow_32 : decode c_Ro_addRow 32 = .ok (.iload_n 2, 1) := by decide +kernel
theorem d_Ro_addRow_33 : decode c_Ro_addRow 33 = .ok (.invokevirtual 32, 3) := by decide +kernel
theorem d_Ro_addRow_36 : decode c_Ro_addRow 36 = .ok (.iinc 2 1, 3) := by decide +kernel
theorem d_Ro_addRow_39 : decode c_Ro_addRow 39 = .ok (.goto (-17), 3) := by decide +kernel
theorem d_Ro_addRow_42 : decode c_Ro_addRow 42 = .ok (.aload_n 0, 1) := by decide +kernel
theorem d_Ro_addRow_43 : decode c_Ro_addRow 43 = .ok (.getfield 24, 3) := by decide +kernel
theorem d_Ro_addRow_46 : decode c_Ro_addRow 46 = .ok (.ireturn, 1) := by decide +kernel
theorem d_Ro_emptyField_0 : decode c_Ro_emptyField 0 = .ok (.aload_n 0, 1) := by decide +kernel
theorem d_Ro_emptyField_1 : decode c_Ro_emptyField 1 = .ok (.getfield 15, 3) := by decide +kernel
theorem d_Ro_emptyField_4 : decode c_Ro_emptyField 4 = .ok (.iload_n 1, 1) := by decide +kernel
theorem d_Ro_emptyField_5 : decode c_Ro_emptyField 5 = .ok (.iload_n 2, 1) := by decide +kernel
theorem d_Ro_emptyField_6 : decode c_Ro_emptyField 6 = .ok (.invokestatic 36, 3) := by decide +kernel
theorem d_Ro_emptyField_9 : decode c_Ro_emptyField 9 = .ok (.iconst (-1), 1) := by decide +kernel
theorem d_Ro_emptyField_10 : decode c_Ro_emptyField 10 = .ok (.iastore, 1) := by decide +kernel
theorem d_Ro_emptyField_11 : decode c_Ro_emptyField 11 = .ok (.aload_n 0, 1) := by decide +kernel
theorem d_Ro_emptyField_12 : decode c_Ro_emptyField 12 = .ok (.getfield 18, 3) := by decide +kernel
theorem d_Ro_emptyField_15 : decode c_Ro_emptyField 15 = .ok (.iload_n 1, 1) := by decide +kernel
theorem d_Ro_emptyField_16 : decode c_Ro_emptyField 16 = .ok (.iload_n 2, 1) := by decide +kernel
theorem d_Ro_emptyField_17 : decode c_Ro_emptyField 17 = .ok (.invokestatic 36, 3) := by decide +kernel
theorem d_Ro_emptyField_20 : decode c_Ro_emptyField 20 = .ok (.iconst 0, 1) := by decide +kernel
theorem d_Ro_emptyField_21 : decode c_Ro_emptyField 21 = .ok (.iastore, 1) := by decide +kernel
theorem d_Ro_emptyField_22 : decode c_Ro_emptyField 22 = .ok (.return_, 1) := by decide +kernel
theorem d_Ro_holdNumber_0 : decode c_Ro_holdNumber 0 = .ok (.aload_n 0, 1) := by decide +kernel
theorem d_Ro_holdNumber_1 : decode c_Ro_holdNumber 1 = .ok (.getfield 15, 3) := by decide +kernel
theorem d_Ro_holdNumber_4 : decode c_Ro_holdNumber 4 = .ok (.iload_n 1, 1) := by decide +kernel
end
section
theorem d_Ro_holdNumber_5 : decode c_Ro_holdNumber 5 = .ok (.iload_n 2, 1) := by decide +kernel
theorem d_Ro_holdNumber_6 : decode c_Ro_holdNumber 6 = .ok (.invokestatic 36, 3) := by decide +kernel
theorem d_Ro_holdNumber_9 : decode c_Ro_holdNumber 9 = .ok (.iload_n 3, 1) := by decide +kernel
theorem d_Ro_holdNumber_10 : decode c_Ro_holdNumber 10 = .ok (.iastore, 1) := by decide +kernel
theorem d_Ro_holdNumber_11 : decode c_Ro_holdNumber 11 = .ok (.return_, 1) := by decide +kernel
theorem d_Ro_numberOf_0 : decode c_Ro_numberOf 0 = .ok (.aload_n 0, 1) := by decide +kernel
theorem d_Ro_numberOf_1 : decode c_Ro_numberOf 1 = .ok (.getfield 15, 3) := by decide +kernel
theorem d_Ro_numberOf_4 : decode c_Ro_numberOf 4 = .ok (.iload_n 1, 1) := by decide +kernel
theorem d_Ro_numberOf_5 : decode c_Ro_numberOf 5 = .ok (.iload_n 2, 1) := by decide +kernel
theorem d_Ro_numberOf_6 : decode c_Ro_numberOf 6 = .ok (.invokestatic 36, 3) := by decide +kernel
theorem d_Ro_numberOf_9 : decode c_Ro_numberOf 9 = .ok (.iaload, 1) := by decide +kernel
theorem d_Ro_numberOf_10 : decode c_Ro_numberOf 10 = .ok (.ireturn, 1) := by decide +kernel
theorem d_Ro_addLinked_0 : decode c_Ro_addLinked 0 = .ok (.iload_n 1, 1) := by decide +kernel
theorem d_Ro_addLinked_1 : decode c_Ro_addLinked 1 = .ok (.iload_n 2, 1) := by decide +kernel
theorem d_Ro_addLinked_2 : decode c_Ro_addLinked 2 = .ok (.invokestatic 36, 3) := by decide +kernel
theorem d_Ro_addLinked_5 : decode c_Ro_addLinked 5 = .ok (.istore 4, 2) := by decide +kernel
theorem d_Ro_addLinked_7 : decode c_Ro_addLinked 7 = .ok (.aload_n 0, 1) := by decide +kernel
theorem d_Ro_addLinked_8 : decode c_Ro_addLinked 8 = .ok (.getfield 21, 3) := by decide +kernel
theorem d_Ro_addLinked_11 : decode c_Ro_addLinked 11 = .ok (.iload 4, 2) := by decide +kernel
theorem d_Ro_addLinked_13 : decode c_Ro_addLinked 13 = .ok (.iconst 4, 1) := by decide +kernel
theorem d_Ro_addLinked_14 : decode c_Ro_addLinked 14 = .ok (.imul, 1) := by decide +kernel
theorem d_Ro_addLinked_15 : decode c_Ro_addLinked 15 = .ok (.aload_n 0, 1) := by decide +kernel
theorem d_Ro_addLinked_16 : decode c_Ro_addLinked 16 = .ok (.getfield 18, 3) := by decide +kernel
theorem d_Ro_addLinked_19 : decode c_Ro_addLinked 19 = .ok (.iload 4, 2) := by decide +kernel
theorem d_Ro_addLinked_21 : decode c_Ro_addLinked 21 = .ok (.iaload, 1) := by decide +kernel
theorem d_Ro_addLinked_22 : decode c_Ro_addLinked 22 = .ok (.iadd, 1) := by decide +kernel
theorem d_Ro_addLinked_23 : decode c_Ro_addLinked 23 = .ok (.iload_n 3, 1) := by decide +kernel
theorem d_Ro_addLinked_24 : decode c_Ro_addLinked 24 = .ok (.iastore, 1) := by decide +kernel
theorem d_Ro_addLinked_25 : decode c_Ro_addLinked 25 = .ok (.aload_n 0, 1) := by decide +kernel
theorem d_Ro_addLinked_26 : decode c_Ro_addLinked 26 = .ok (.getfield 18, 3) := by decide +kernel
theorem d_Ro_addLinked_29 : decode c_Ro_addLinked 29 = .ok (.iload 4, 2) := by decide +kernel
theorem d_Ro_addLinked_31 : decode c_Ro_addLinked 31 = .ok (.dup2, 1) := by decide +kernel
theorem d_Ro_addLinked_32 : decode c_Ro_addLinked 32 = .ok (.iaload, 1) := by decide +kernel
theorem d_Ro_addLinked_33 : decode c_Ro_addLinked 33 = .ok (.iconst 1, 1) := by decide +kernel
theorem d_Ro_addLinked_34 : decode c_Ro_addLinked 34 = .ok (.iadd, 1) := by decide +kernel
theorem d_Ro_addLinked_35 : decode c_Ro_addLinked 35 = .ok (.iastore, 1) := by decide +kernel
theorem d_Ro_addLinked_36 : decode c_Ro_addLinked 36 = .ok (.aload_n 0, 1) := by decide +kernel
theorem d_Ro_addLinked_37 : decode c_Ro_addLinked 37 = .ok (.getfield 18, 3) := by decide +kernel
theorem d_Ro_addLinked_40 : decode c_Ro_addLinked 40 = .ok (.iload 4, 2) := by decide +kernel
theorem d_Ro_addLinked_42 : decode c_Ro_addLinked 42 = .ok (.iaload, 1) := by decide +kernel
theorem d_Ro_addLinked_43 : decode c_Ro_addLinked 43 = .ok (.ireturn, 1) := by decide +kernel
theorem d_Ro_linkedCount_0 : decode c_Ro_linkedCount 0 = .ok (.aload_n 0, 1) := by decide +kernel
theorem d_Ro_linkedCount_1 : decode c_Ro_linkedCount 1 = .ok (.getfield 18, 3) := by decide +kernel
theorem d_Ro_linkedCount_4 : decode c_Ro_linkedCount 4 = .ok (.iload_n 1, 1) := by decide +kernel
theorem d_Ro_linkedCount_5 : decode c_Ro_linkedCount 5 = .ok (.iload_n 2, 1) := by decide +kernel
theorem d_Ro_linkedCount_6 : decode c_Ro_linkedCount 6 = .ok (.invokestatic 36, 3) := by decide +kernel
theorem d_Ro_linkedCount_9 : decode c_Ro_linkedCount 9 = .ok (.iaload, 1) := by decide +kernel
theorem d_Ro_linkedCount_10 : decode c_Ro_linkedCount 10 = .ok (.ireturn, 1) := by decide +kernel
theorem d_Ro_linkedRow_0 : decode c_Ro_linkedRow 0 = .ok (.aload_n 0, 1) := by decide +kernel
theorem d_Ro_linkedRow_1 : decode c_Ro_linkedRow 1 = .ok (.getfield 21, 3) := by decide +kernel
theorem d_Ro_linkedRow_4 : decode c_Ro_linkedRow 4 = .ok (.iload_n 1, 1) := by decide +kernel
theorem d_Ro_linkedRow_5 : decode c_Ro_linkedRow 5 = .ok (.iload_n 2, 1) := by decide +kernel
theorem d_Ro_linkedRow_6 : decode c_Ro_linkedRow 6 = .ok (.invokestatic 36, 3) := by decide +kernel
theorem d_Ro_linkedRow_9 : decode c_Ro_linkedRow 9 = .ok (.iconst 4, 1) := by decide +kernel
theorem d_Ro_linkedRow_10 : decode c_Ro_linkedRow 10 = .ok (.imul, 1) := by decide +kernel
theorem d_Ro_linkedRow_11 : decode c_Ro_linkedRow 11 = .ok (.iload_n 3, 1) := by decide +kernel
theorem d_Ro_linkedRow_12 : decode c_Ro_linkedRow 12 = .ok (.iadd, 1) := by decide +kernel
theorem d_Ro_linkedRow_13 : decode c_Ro_linkedRow 13 = .ok (.iaload, 1) := by decide +kernel
theorem d_Ro_linkedRow_14 : decode c_Ro_linkedRow 14 = .ok (.ireturn, 1) := by decide +kernel
theorem d_Ro_cellOf_0 : decode c_Ro_cellOf 0 = .ok (.iload_n 0, 1) := by decide +kernel
theorem d_Ro_cellOf_1 : decode c_Ro_cellOf 1 = .ok (.iconst 1, 1) := by decide +kernel
theorem d_Ro_cellOf_2 : decode c_Ro_cellOf 2 = .ok (.isub, 1) := by decide +kernel
theorem d_Ro_cellOf_3 : decode c_Ro_cellOf 3 = .ok (.iconst 4, 1) := by decide +kernel
theorem d_Ro_cellOf_4 : decode c_Ro_cellOf 4 = .ok (.imul, 1) := by decide +kernel
theorem d_Ro_cellOf_5 : decode c_Ro_cellOf 5 = .ok (.iload_n 1, 1) := by decide +kernel
theorem d_Ro_cellOf_6 : decode c_Ro_cellOf 6 = .ok (.iadd, 1) := by decide +kernel
theorem d_Ro_cellOf_7 : decode c_Ro_cellOf 7 = .ok (.ireturn, 1) := by decide +kernel
theorem d_Sc_init_0 : decode c_Sc_init 0 = .ok (.aload_n 0, 1) := by decide +kernel
theorem d_Sc_init_1 : decode c_Sc_init 1 = .ok (.invokespecial 3, 3) := by decide +kernel
theorem d_Sc_init_4 : decode c_Sc_init 4 = .ok (.aload_n 0, 1) := by decide +kernel
theorem d_Sc_init_5 : decode c_Sc_init 5 = .ok (.iconst 5, 1) := by decide +kernel
theorem d_Sc_init_6 : decode c_Sc_init 6 = .ok (.newarray .int, 2) := by decide +kernel
theorem d_Sc_init_8 : decode c_Sc_init 8 = .ok (.putfield 9, 3) := by decide +kernel
theorem d_Sc_init_11 : decode c_Sc_init 11 = .ok (.aload_n 0, 1) := by decide +kernel
theorem d_Sc_init_12 : decode c_Sc_init 12 = .ok (.bipush 20, 2) := by decide +kernel
theorem d_Sc_init_14 : decode c_Sc_init 14 = .ok (.newarray .int, 2) := by decide +kernel
theorem d_Sc_init_16 : decode c_Sc_init 16 = .ok (.putfield 15, 3) := by decide +kernel
theorem d_Sc_init_19 : decode c_Sc_init 19 = .ok (.aload_n 0, 1) := by decide +kernel
theorem d_Sc_init_20 : decode c_Sc_init 20 = .ok (.bipush 20, 2) := by decide +kernel
theorem d_Sc_init_22 : decode c_Sc_init 22 = .ok (.newarray .int, 2) := by decide +kernel
theorem d_Sc_init_24 : decode c_Sc_init 24 = .ok (.putfield 18, 3) := by decide +kernel
theorem d_Sc_init_27 : decode c_Sc_init 27 = .ok (.aload_n 0, 1) := by decide +kernel
theorem d_Sc_init_28 : decode c_Sc_init 28 = .ok (.bipush 20, 2) := by decide +kernel
theorem d_Sc_init_30 : decode c_Sc_init 30 = .ok (.newarray .boolean, 2) := by decide +kernel
theorem d_Sc_init_32 : decode c_Sc_init 32 = .ok (.putfield 21, 3) := by decide +kernel
theorem d_Sc_init_35 : decode c_Sc_init 35 = .ok (.return_, 1) := by decide +kernel
theorem d_Sc_hasType_0 : decode c_Sc_hasType 0 = .ok (.iload_n 1, 1) := by decide +kernel
theorem d_Sc_hasType_1 : decode c_Sc_hasType 1 = .ok (.ifCond .lt 15, 3) := by decide +kernel
theorem d_Sc_hasType_4 : decode c_Sc_hasType 4 = .ok (.iload_n 1, 1) := by decide +kernel
theorem d_Sc_hasType_5 : decode c_Sc_hasType 5 = .ok (.aload_n 0, 1) := by decide +kernel
theorem d_Sc_hasType_6 : decode c_Sc_hasType 6 = .ok (.getfield 25, 3) := by decide +kernel
theorem d_Sc_hasType_9 : decode c_Sc_hasType 9 = .ok (.if_icmp .ge 7, 3) := by decide +kernel
theorem d_Sc_hasType_12 : decode c_Sc_hasType 12 = .ok (.iconst 1, 1) := by decide +kernel
theorem d_Sc_hasType_13 : decode c_Sc_hasType 13 = .ok (.goto 4, 3) := by decide +kernel
theorem d_Sc_hasType_16 : decode c_Sc_hasType 16 = .ok (.iconst 0, 1) := by decide +kernel
theorem d_Sc_hasType_17 : decode c_Sc_hasType 17 = .ok (.ireturn, 1) := by decide +kernel
theorem d_Sc_hasField_0 : decode c_Sc_hasField 0 = .ok (.aload_n 0, 1) := by decide +kernel
theorem d_Sc_hasField_1 : decode c_Sc_hasField 1 = .ok (.iload_n 1, 1) := by decide +kernel
theorem d_Sc_hasField_2 : decode c_Sc_hasField 2 = .ok (.invokevirtual 29, 3) := by decide +kernel
theorem d_Sc_hasField_5 : decode c_Sc_hasField 5 = .ok (.ifCond .eq 21, 3) := by decide +kernel
theorem d_Sc_hasField_8 : decode c_Sc_hasField 8 = .ok (.iload_n 2, 1) := by decide +kernel
theorem d_Sc_hasField_9 : decode c_Sc_hasField 9 = .ok (.ifCond .lt 17, 3) := by decide +kernel
theorem d_Sc_hasField_12 : decode c_Sc_hasField 12 = .ok (.iload_n 2, 1) := by decide +kernel
theorem d_Sc_hasField_13 : decode c_Sc_hasField 13 = .ok (.aload_n 0, 1) := by decide +kernel
theorem d_Sc_hasField_14 : decode c_Sc_hasField 14 = .ok (.getfield 9, 3) := by decide +kernel
theorem d_Sc_hasField_17 : decode c_Sc_hasField 17 = .ok (.iload_n 1, 1) := by decide +kernel
theorem d_Sc_hasField_18 : decode c_Sc_hasField 18 = .ok (.iaload, 1) := by decide +kernel
theorem d_Sc_hasField_19 : decode c_Sc_hasField 19 = .ok (.if_icmp .ge 7, 3) := by decide +kernel
theorem d_Sc_hasField_22 : decode c_Sc_hasField 22 = .ok (.iconst 1, 1) := by decide +kernel
theorem d_Sc_hasField_23 : decode c_Sc_hasField 23 = .ok (.goto 4, 3) := by decide +kernel
theorem d_Sc_hasField_26 : decode c_Sc_hasField 26 = .ok (.iconst 0, 1) := by decide +kernel
theorem d_Sc_hasField_27 : decode c_Sc_hasField 27 = .ok (.ireturn, 1) := by decide +kernel
theorem d_Sc_kindOf_0 : decode c_Sc_kindOf 0 = .ok (.aload_n 0, 1) := by decide +kernel
theorem d_Sc_kindOf_1 : decode c_Sc_kindOf 1 = .ok (.iload_n 1, 1) := by decide +kernel
theorem d_Sc_kindOf_2 : decode c_Sc_kindOf 2 = .ok (.iload_n 2, 1) := by decide +kernel
theorem d_Sc_kindOf_3 : decode c_Sc_kindOf 3 = .ok (.invokevirtual 33, 3) := by decide +kernel
theorem d_Sc_kindOf_6 : decode c_Sc_kindOf 6 = .ok (.ifCond .eq 16, 3) := by decide +kernel
theorem d_Sc_kindOf_9 : decode c_Sc_kindOf 9 = .ok (.aload_n 0, 1) := by decide +kernel
theorem d_Sc_kindOf_10 : decode c_Sc_kindOf 10 = .ok (.getfield 15, 3) := by decide +kernel
theorem d_Sc_kindOf_13 : decode c_Sc_kindOf 13 = .ok (.iload_n 1, 1) := by decide +kernel
theorem d_Sc_kindOf_14 : decode c_Sc_kindOf 14 = .ok (.iconst 4, 1) := by decide +kernel
theorem d_Sc_kindOf_15 : decode c_Sc_kindOf 15 = .ok (.imul, 1) := by decide +kernel
theorem d_Sc_kindOf_16 : decode c_Sc_kindOf 16 = .ok (.iload_n 2, 1) := by decide +kernel
theorem d_Sc_kindOf_17 : decode c_Sc_kindOf 17 = .ok (.iadd, 1) := by decide +kernel
theorem d_Sc_kindOf_18 : decode c_Sc_kindOf 18 = .ok (.iaload, 1) := by decide +kernel
theorem d_Sc_kindOf_19 : decode c_Sc_kindOf 19 = .ok (.goto 4, 3) := by decide +kernel
theorem d_Sc_kindOf_22 : decode c_Sc_kindOf 22 = .ok (.iconst (-1), 1) := by decide +kernel
theorem d_Sc_kindOf_23 : decode c_Sc_kindOf 23 = .ok (.ireturn, 1) := by decide +kernel
theorem d_Sc_targetOf_0 : decode c_Sc_targetOf 0 = .ok (.aload_n 0, 1) := by decide +kernel
theorem d_Sc_targetOf_1 : decode c_Sc_targetOf 1 = .ok (.iload_n 1, 1) := by decide +kernel
theorem d_Sc_targetOf_2 : decode c_Sc_targetOf 2 = .ok (.iload_n 2, 1) := by decide +kernel
theorem d_Sc_targetOf_3 : decode c_Sc_targetOf 3 = .ok (.invokevirtual 33, 3) := by decide +kernel
theorem d_Sc_targetOf_6 : decode c_Sc_targetOf 6 = .ok (.ifCond .eq 16, 3) := by decide +kernel
theorem d_Sc_targetOf_9 : decode c_Sc_targetOf 9 = .ok (.aload_n 0, 1) := by decide +kernel
theorem d_Sc_targetOf_10 : decode c_Sc_targetOf 10 = .ok (.getfield 18, 3) := by decide +kernel
theorem d_Sc_targetOf_13 : decode c_Sc_targetOf 13 = .ok (.iload_n 1, 1) := by decide +kernel
theorem d_Sc_targetOf_14 : decode c_Sc_targetOf 14 = .ok (.iconst 4, 1) := by decide +kernel
theorem d_Sc_targetOf_15 : decode c_Sc_targetOf 15 = .ok (.imul, 1) := by decide +kernel
theorem d_Sc_targetOf_16 : decode c_Sc_targetOf 16 = .ok (.iload_n 2, 1) := by decide +kernel
theorem d_Sc_targetOf_17 : decode c_Sc_targetOf 17 = .ok (.iadd, 1) := by decide +kernel
theorem d_Sc_targetOf_18 : decode c_Sc_targetOf 18 = .ok (.iaload, 1) := by decide +kernel
theorem d_Sc_targetOf_19 : decode c_Sc_targetOf 19 = .ok (.goto 4, 3) := by decide +kernel
theorem d_Sc_targetOf_22 : decode c_Sc_targetOf 22 = .ok (.iconst 5, 1) := by decide +kernel
theorem d_Sc_targetOf_23 : decode c_Sc_targetOf 23 = .ok (.ireturn, 1) := by decide +kernel
theorem d_Sc_isRequired_0 : decode c_Sc_isRequired 0 = .ok (.aload_n 0, 1) := by decide +kernel
theorem d_Sc_isRequired_1 : decode c_Sc_isRequired 1 = .ok (.iload_n 1, 1) := by decide +kernel
theorem d_Sc_isRequired_2 : decode c_Sc_isRequired 2 = .ok (.iload_n 2, 1) := by decide +kernel
theorem d_Sc_isRequired_3 : decode c_Sc_isRequired 3 = .ok (.invokevirtual 33, 3) := by decide +kernel
theorem d_Sc_isRequired_6 : decode c_Sc_isRequired 6 = .ok (.ifCond .eq 20, 3) := by decide +kernel
theorem d_Sc_isRequired_9 : decode c_Sc_isRequired 9 = .ok (.aload_n 0, 1) := by decide +kernel
theorem d_Sc_isRequired_10 : decode c_Sc_isRequired 10 = .ok (.getfield 21, 3) := by decide +kernel
theorem d_Sc_isRequired_13 : decode c_Sc_isRequired 13 = .ok (.iload_n 1, 1) := by decide +kernel
theorem d_Sc_isRequired_14 : decode c_Sc_isRequired 14 = .ok (.iconst 4, 1) := by decide +kernel
theorem d_Sc_isRequired_15 : decode c_Sc_isRequired 15 = .ok (.imul, 1) := by decide +kernel
theorem d_Sc_isRequired_16 : decode c_Sc_isRequired 16 = .ok (.iload_n 2, 1) := by decide +kernel
theorem d_Sc_isRequired_17 : decode c_Sc_isRequired 17 = .ok (.iadd, 1) := by decide +kernel
theorem d_Sc_isRequired_18 : decode c_Sc_isRequired 18 = .ok (.baload, 1) := by decide +kernel
theorem d_Sc_isRequired_19 : decode c_Sc_isRequired 19 = .ok (.ifCond .eq 7, 3) := by decide +kernel
theorem d_Sc_isRequired_22 : decode c_Sc_isRequired 22 = .ok (.iconst 1, 1) := by decide +kernel
theorem d_Sc_isRequired_23 : decode c_Sc_isRequired 23 = .ok (.goto 4, 3) := by decide +kernel
theorem d_Sc_isRequired_26 : decode c_Sc_isRequired 26 = .ok (.iconst 0, 1) := by decide +kernel
theorem d_Sc_isRequired_27 : decode c_Sc_isRequired 27 = .ok (.ireturn, 1) := by decide +kernel
theorem d_Sc_addType_0 : decode c_Sc_addType 0 = .ok (.aload_n 0, 1) := by decide +kernel
theorem d_Sc_addType_1 : decode c_Sc_addType 1 = .ok (.getfield 25, 3) := by decide +kernel
theorem d_Sc_addType_4 : decode c_Sc_addType 4 = .ok (.istore_n 1, 1) := by decide +kernel
theorem d_Sc_addType_5 : decode c_Sc_addType 5 = .ok (.aload_n 0, 1) := by decide +kernel
theorem d_Sc_addType_6 : decode c_Sc_addType 6 = .ok (.dup, 1) := by decide +kernel
theorem d_Sc_addType_7 : decode c_Sc_addType 7 = .ok (.getfield 25, 3) := by decide +kernel
theorem d_Sc_addType_10 : decode c_Sc_addType 10 = .ok (.iconst 1, 1) := by decide +kernel
theorem d_Sc_addType_11 : decode c_Sc_addType 11 = .ok (.iadd, 1) := by decide +kernel
theorem d_Sc_addType_12 : decode c_Sc_addType 12 = .ok (.putfield 25, 3) := by decide +kernel
theorem d_Sc_addType_15 : decode c_Sc_addType 15 = .ok (.iload_n 1, 1) := by decide +kernel
theorem d_Sc_addType_16 : decode c_Sc_addType 16 = .ok (.ireturn, 1) := by decide +kernel
theorem d_Sc_addField_0 : decode c_Sc_addField 0 = .ok (.aload_n 0, 1) := by decide +kernel
theorem d_Sc_addField_1 : decode c_Sc_addField 1 = .ok (.getfield 9, 3) := by decide +kernel
theorem d_Sc_addField_4 : decode c_Sc_addField 4 = .ok (.iload_n 1, 1) := by decide +kernel
theorem d_Sc_addField_5 : decode c_Sc_addField 5 = .ok (.iaload, 1) := by decide +kernel
theorem d_Sc_addField_6 : decode c_Sc_addField 6 = .ok (.istore 5, 2) := by decide +kernel
theorem d_Sc_addField_8 : decode c_Sc_addField 8 = .ok (.iload_n 1, 1) := by decide +kernel
theorem d_Sc_addField_9 : decode c_Sc_addField 9 = .ok (.iconst 4, 1) := by decide +kernel
theorem d_Sc_addField_10 : decode c_Sc_addField 10 = .ok (.imul, 1) := by decide +kernel
theorem d_Sc_addField_11 : decode c_Sc_addField 11 = .ok (.iload 5, 2) := by decide +kernel
theorem d_Sc_addField_13 : decode c_Sc_addField 13 = .ok (.iadd, 1) := by decide +kernel
theorem d_Sc_addField_14 : decode c_Sc_addField 14 = .ok (.istore 6, 2) := by decide +kernel
theorem d_Sc_addField_16 : decode c_Sc_addField 16 = .ok (.aload_n 0, 1) := by decide +kernel
theorem d_Sc_addField_17 : decode c_Sc_addField 17 = .ok (.getfield 15, 3) := by decide +kernel
theorem d_Sc_addField_20 : decode c_Sc_addField 20 = .ok (.iload 6, 2) := by decide +kernel
theorem d_Sc_addField_22 : decode c_Sc_addField 22 = .ok (.iload_n 2, 1) := by decide +kernel
theorem d_Sc_addField_23 : decode c_Sc_addField 23 = .ok (.iastore, 1) := by decide +kernel
theorem d_Sc_addField_24 : decode c_Sc_addField 24 = .ok (.aload_n 0, 1) := by decide +kernel
theorem d_Sc_addField_25 : decode c_Sc_addField 25 = .ok (.getfield 18, 3) := by decide +kernel
theorem d_Sc_addField_28 : decode c_Sc_addField 28 = .ok (.iload 6, 2) := by decide +kernel
theorem d_Sc_addField_30 : decode c_Sc_addField 30 = .ok (.iload_n 3, 1) := by decide +kernel
theorem d_Sc_addField_31 : decode c_Sc_addField 31 = .ok (.iastore, 1) := by decide +kernel
theorem d_Sc_addField_32 : decode c_Sc_addField 32 = .ok (.aload_n 0, 1) := by decide +kernel
theorem d_Sc_addField_33 : decode c_Sc_addField 33 = .ok (.getfield 21, 3) := by decide +kernel
theorem d_Sc_addField_36 : decode c_Sc_addField 36 = .ok (.iload 6, 2) := by decide +kernel
theorem d_Sc_addField_38 : decode c_Sc_addField 38 = .ok (.iload 4, 2) := by decide +kernel
theorem d_Sc_addField_40 : decode c_Sc_addField 40 = .ok (.bastore, 1) := by decide +kernel
theorem d_Sc_addField_41 : decode c_Sc_addField 41 = .ok (.aload_n 0, 1) := by decide +kernel
theorem d_Sc_addField_42 : decode c_Sc_addField 42 = .ok (.getfield 9, 3) := by decide +kernel
theorem d_Sc_addField_45 : decode c_Sc_addField 45 = .ok (.iload_n 1, 1) := by decide +kernel
theorem d_Sc_addField_46 : decode c_Sc_addField 46 = .ok (.dup2, 1) := by decide +kernel
theorem d_Sc_addField_47 : decode c_Sc_addField 47 = .ok (.iaload, 1) := by decide +kernel
theorem d_Sc_addField_48 : decode c_Sc_addField 48 = .ok (.iconst 1, 1) := by decide +kernel
theorem d_Sc_addField_49 : decode c_Sc_addField 49 = .ok (.iadd, 1) := by decide +kernel
theorem d_Sc_addField_50 : decode c_Sc_addField 50 = .ok (.iastore, 1) := by decide +kernel
theorem d_Sc_addField_51 : decode c_Sc_addField 51 = .ok (.iload 5, 2) := by decide +kernel
theorem d_Sc_addField_53 : decode c_Sc_addField 53 = .ok (.ireturn, 1) := by decide +kernel
theorem d_St_init_0 : decode c_St_init 0 = .ok (.aload_n 0, 1) := by decide +kernel
theorem d_St_init_1 : decode c_St_init 1 = .ok (.invokespecial 3, 3) := by decide +kernel
theorem d_St_init_4 : decode c_St_init 4 = .ok (.aload_n 0, 1) := by decide +kernel
theorem d_St_init_5 : decode c_St_init 5 = .ok (.iload_n 1, 1) := by decide +kernel
theorem d_St_init_6 : decode c_St_init 6 = .ok (.putfield 9, 3) := by decide +kernel
theorem d_St_init_9 : decode c_St_init 9 = .ok (.return_, 1) := by decide +kernel
theorem d_St_isEntry_0 : decode c_St_isEntry 0 = .ok (.aload_n 0, 1) := by decide +kernel
theorem d_St_isEntry_1 : decode c_St_isEntry 1 = .ok (.getfield 15, 3) := by decide +kernel
theorem d_St_isEntry_4 : decode c_St_isEntry 4 = .ok (.ifCond .eq 19, 3) := by decide +kernel
theorem d_St_isEntry_7 : decode c_St_isEntry 7 = .ok (.aload_n 0, 1) := by decide +kernel
theorem d_St_isEntry_8 : decode c_St_isEntry 8 = .ok (.getfield 15, 3) := by decide +kernel
theorem d_St_isEntry_11 : decode c_St_isEntry 11 = .ok (.iconst 1, 1) := by decide +kernel
theorem d_St_isEntry_12 : decode c_St_isEntry 12 = .ok (.if_icmp .eq 11, 3) := by decide +kernel
theorem d_St_isEntry_15 : decode c_St_isEntry 15 = .ok (.aload_n 0, 1) := by decide +kernel
theorem d_St_isEntry_16 : decode c_St_isEntry 16 = .ok (.getfield 15, 3) := by decide +kernel
theorem d_St_isEntry_19 : decode c_St_isEntry 19 = .ok (.iconst 2, 1) := by decide +kernel
theorem d_St_isEntry_20 : decode c_St_isEntry 20 = .ok (.if_icmp .ne 7, 3) := by decide +kernel
theorem d_St_isEntry_23 : decode c_St_isEntry 23 = .ok (.iconst 1, 1) := by decide +kernel
theorem d_St_isEntry_24 : decode c_St_isEntry 24 = .ok (.goto 4, 3) := by decide +kernel
theorem d_St_isEntry_27 : decode c_St_isEntry 27 = .ok (.iconst 0, 1) := by decide +kernel
theorem d_St_isEntry_28 : decode c_St_isEntry 28 = .ok (.ireturn, 1) := by decide +kernel
theorem d_Te_init_0 : decode c_Te_init 0 = .ok (.aload_n 0, 1) := by decide +kernel
theorem d_Te_init_1 : decode c_Te_init 1 = .ok (.invokespecial 3, 3) := by decide +kernel
theorem d_Te_init_4 : decode c_Te_init 4 = .ok (.aload_n 0, 1) := by decide +kernel
theorem d_Te_init_5 : decode c_Te_init 5 = .ok (.iconst 4, 1) := by decide +kernel
theorem d_Te_init_6 : decode c_Te_init 6 = .ok (.newarray .int, 2) := by decide +kernel
theorem d_Te_init_8 : decode c_Te_init 8 = .ok (.putfield 9, 3) := by decide +kernel
theorem d_Te_init_11 : decode c_Te_init 11 = .ok (.aload_n 0, 1) := by decide +kernel
theorem d_Te_init_12 : decode c_Te_init 12 = .ok (.bipush 64, 2) := by decide +kernel
theorem d_Te_init_14 : decode c_Te_init 14 = .ok (.newarray .int, 2) := by decide +kernel
theorem d_Te_init_16 : decode c_Te_init 16 = .ok (.putfield 15, 3) := by decide +kernel
theorem d_Te_init_19 : decode c_Te_init 19 = .ok (.aload_n 0, 1) := by decide +kernel
theorem d_Te_init_20 : decode c_Te_init 20 = .ok (.bipush 64, 2) := by decide +kernel
theorem d_Te_init_22 : decode c_Te_init 22 = .ok (.newarray .int, 2) := by decide +kernel
theorem d_Te_init_24 : decode c_Te_init 24 = .ok (.putfield 18, 3) := by decide +kernel
theorem d_Te_init_27 : decode c_Te_init 27 = .ok (.aload_n 0, 1) := by decide +kernel
theorem d_Te_init_28 : decode c_Te_init 28 = .ok (.bipush 64, 2) := by decide +kernel
theorem d_Te_init_30 : decode c_Te_init 30 = .ok (.newarray .int, 2) := by decide +kernel
theorem d_Te_init_32 : decode c_Te_init 32 = .ok (.putfield 21, 3) := by decide +kernel
theorem d_Te_init_35 : decode c_Te_init 35 = .ok (.return_, 1) := by decide +kernel
theorem d_Te_addToken_0 : decode c_Te_addToken 0 = .ok (.iload_n 1, 1) := by decide +kernel
theorem d_Te_addToken_1 : decode c_Te_addToken 1 = .ok (.bipush 16, 2) := by decide +kernel
theorem d_Te_addToken_3 : decode c_Te_addToken 3 = .ok (.imul, 1) := by decide +kernel
theorem d_Te_addToken_4 : decode c_Te_addToken 4 = .ok (.aload_n 0, 1) := by decide +kernel
theorem d_Te_addToken_5 : decode c_Te_addToken 5 = .ok (.getfield 9, 3) := by decide +kernel
theorem d_Te_addToken_8 : decode c_Te_addToken 8 = .ok (.iload_n 1, 1) := by decide +kernel
theorem d_Te_addToken_9 : decode c_Te_addToken 9 = .ok (.iaload, 1) := by decide +kernel
theorem d_Te_addToken_10 : decode c_Te_addToken 10 = .ok (.iadd, 1) := by decide +kernel
theorem d_Te_addToken_11 : decode c_Te_addToken 11 = .ok (.istore 5, 2) := by decide +kernel
theorem d_Te_addToken_13 : decode c_Te_addToken 13 = .ok (.aload_n 0, 1) := by decide +kernel
theorem d_Te_addToken_14 : decode c_Te_addToken 14 = .ok (.getfield 15, 3) := by decide +kernel
theorem d_Te_addToken_17 : decode c_Te_addToken 17 = .ok (.iload 5, 2) := by decide +kernel
theorem d_Te_addToken_19 : decode c_Te_addToken 19 = .ok (.iload_n 2, 1) := by decide +kernel
theorem d_Te_addToken_20 : decode c_Te_addToken 20 = .ok (.iastore, 1) := by decide +kernel
theorem d_Te_addToken_21 : decode c_Te_addToken 21 = .ok (.aload_n 0, 1) := by decide +kernel
theorem d_Te_addToken_22 : decode c_Te_addToken 22 = .ok (.getfield 18, 3) := by decide +kernel
theorem d_Te_addToken_25 : decode c_Te_addToken 25 = .ok (.iload 5, 2) := by decide +kernel
theorem d_Te_addToken_27 : decode c_Te_addToken 27 = .ok (.iload_n 3, 1) := by decide +kernel
theorem d_Te_addToken_28 : decode c_Te_addToken 28 = .ok (.iastore, 1) := by decide +kernel
theorem d_Te_addToken_29 : decode c_Te_addToken 29 = .ok (.aload_n 0, 1) := by decide +kernel
theorem d_Te_addToken_30 : decode c_Te_addToken 30 = .ok (.getfield 21, 3) := by decide +kernel
theorem d_Te_addToken_33 : decode c_Te_addToken 33 = .ok (.iload 5, 2) := by decide +kernel
theorem d_Te_addToken_35 : decode c_Te_addToken 35 = .ok (.iload 4, 2) := by decide +kernel
theorem d_Te_addToken_37 : decode c_Te_addToken 37 = .ok (.iastore, 1) := by decide +kernel
theorem d_Te_addToken_38 : decode c_Te_addToken 38 = .ok (.aload_n 0, 1) := by decide +kernel
theorem d_Te_addToken_39 : decode c_Te_addToken 39 = .ok (.getfield 9, 3) := by decide +kernel
theorem d_Te_addToken_42 : decode c_Te_addToken 42 = .ok (.iload_n 1, 1) := by decide +kernel
theorem d_Te_addToken_43 : decode c_Te_addToken 43 = .ok (.dup2, 1) := by decide +kernel
theorem d_Te_addToken_44 : decode c_Te_addToken 44 = .ok (.iaload, 1) := by decide +kernel
theorem d_Te_addToken_45 : decode c_Te_addToken 45 = .ok (.iconst 1, 1) := by decide +kernel
theorem d_Te_addToken_46 : decode c_Te_addToken 46 = .ok (.iadd, 1) := by decide +kernel
theorem d_Te_addToken_47 : decode c_Te_addToken 47 = .ok (.iastore, 1) := by decide +kernel
theorem d_Te_addToken_48 : decode c_Te_addToken 48 = .ok (.aload_n 0, 1) := by decide +kernel
theorem d_Te_addToken_49 : decode c_Te_addToken 49 = .ok (.getfield 9, 3) := by decide +kernel
theorem d_Te_addToken_52 : decode c_Te_addToken 52 = .ok (.iload_n 1, 1) := by decide +kernel
theorem d_Te_addToken_53 : decode c_Te_addToken 53 = .ok (.iaload, 1) := by decide +kernel
theorem d_Te_addToken_54 : decode c_Te_addToken 54 = .ok (.ireturn, 1) := by decide +kernel
theorem d_Te_isGood_0 : decode c_Te_isGood 0 = .ok (.iconst 1, 1) := by decide +kernel
theorem d_Te_isGood_1 : decode c_Te_isGood 1 = .ok (.istore_n 2, 1) := by decide +kernel
theorem d_Te_isGood_2 : decode c_Te_isGood 2 = .ok (.iconst 0, 1) := by decide +kernel
theorem d_Te_isGood_3 : decode c_Te_isGood 3 = .ok (.istore_n 3, 1) := by decide +kernel
theorem d_Te_isGood_4 : decode c_Te_isGood 4 = .ok (.iload_n 3, 1) := by decide +kernel
theorem d_Te_isGood_5 : decode c_Te_isGood 5 = .ok (.aload_n 0, 1) := by decide +kernel
theorem d_Te_isGood_6 : decode c_Te_isGood 6 = .ok (.getfield 9, 3) := by decide +kernel
theorem d_Te_isGood_9 : decode c_Te_isGood 9 = .ok (.iload_n 1, 1) := by decide +kernel
theorem d_Te_isGood_10 : decode c_Te_isGood 10 = .ok (.iaload, 1) := by decide +kernel
theorem d_Te_isGood_11 : decode c_Te_isGood 11 = .ok (.if_icmp .ge 59, 3) := by decide +kernel
theorem d_Te_isGood_14 : decode c_Te_isGood 14 = .ok (.iload_n 2, 1) := by decide +kernel
theorem d_Te_isGood_15 : decode c_Te_isGood 15 = .ok (.ifCond .ne 5, 3) := by decide +kernel
theorem d_Te_isGood_18 : decode c_Te_isGood 18 = .ok (.iconst 0, 1) := by decide +kernel
theorem d_Te_isGood_19 : decode c_Te_isGood 19 = .ok (.ireturn, 1) := by decide +kernel
theorem d_Te_isGood_20 : decode c_Te_isGood 20 = .ok (.aload_n 0, 1) := by decide +kernel
theorem d_Te_isGood_21 : decode c_Te_isGood 21 = .ok (.getfield 15, 3) := by decide +kernel
theorem d_Te_isGood_24 : decode c_Te_isGood 24 = .ok (.iload_n 1, 1) := by decide +kernel
theorem d_Te_isGood_25 : decode c_Te_isGood 25 = .ok (.bipush 16, 2) := by decide +kernel
theorem d_Te_isGood_27 : decode c_Te_isGood 27 = .ok (.imul, 1) := by decide +kernel
theorem d_Te_isGood_28 : decode c_Te_isGood 28 = .ok (.iload_n 3, 1) := by decide +kernel
theorem d_Te_isGood_29 : decode c_Te_isGood 29 = .ok (.iadd, 1) := by decide +kernel
theorem d_Te_isGood_30 : decode c_Te_isGood 30 = .ok (.iaload, 1) := by decide +kernel
theorem d_Te_isGood_31 : decode c_Te_isGood 31 = .ok (.istore 4, 2) := by decide +kernel
theorem d_Te_isGood_33 : decode c_Te_isGood 33 = .ok (.iload 4, 2) := by decide +kernel
theorem d_Te_isGood_35 : decode c_Te_isGood 35 = .ok (.bipush 6, 2) := by decide +kernel
theorem d_Te_isGood_37 : decode c_Te_isGood 37 = .ok (.if_icmp .ne 9, 3) := by decide +kernel
theorem d_Te_isGood_40 : decode c_Te_isGood 40 = .ok (.iinc 2 (-1), 3) := by decide +kernel
theorem d_Te_isGood_43 : decode c_Te_isGood 43 = .ok (.goto 14, 3) := by decide +kernel
theorem d_Te_isGood_46 : decode c_Te_isGood 46 = .ok (.iload 4, 2) := by decide +kernel
theorem d_Te_isGood_48 : decode c_Te_isGood 48 = .ok (.invokestatic 24, 3) := by decide +kernel
theorem d_Te_isGood_51 : decode c_Te_isGood 51 = .ok (.ifCond .eq 6, 3) := by decide +kernel
theorem d_Te_isGood_54 : decode c_Te_isGood 54 = .ok (.iinc 2 1, 3) := by decide +kernel
theorem d_Te_isGood_57 : decode c_Te_isGood 57 = .ok (.iload_n 2, 1) := by decide +kernel
theorem d_Te_isGood_58 : decode c_Te_isGood 58 = .ok (.iconst 4, 1) := by decide +kernel
theorem d_Te_isGood_59 : decode c_Te_isGood 59 = .ok (.if_icmp .le 5, 3) := by decide +kernel
theorem d_Te_isGood_62 : decode c_Te_isGood 62 = .ok (.iconst 0, 1) := by decide +kernel
theorem d_Te_isGood_63 : decode c_Te_isGood 63 = .ok (.ireturn, 1) := by decide +kernel
theorem d_Te_isGood_64 : decode c_Te_isGood 64 = .ok (.iinc 3 1, 3) := by decide +kernel
theorem d_Te_isGood_67 : decode c_Te_isGood 67 = .ok (.goto (-63), 3) := by decide +kernel
theorem d_Te_isGood_70 : decode c_Te_isGood 70 = .ok (.iload_n 2, 1) := by decide +kernel
theorem d_Te_isGood_71 : decode c_Te_isGood 71 = .ok (.ifCond .ne 7, 3) := by decide +kernel
theorem d_Te_isGood_74 : decode c_Te_isGood 74 = .ok (.iconst 1, 1) := by decide +kernel
theorem d_Te_isGood_75 : decode c_Te_isGood 75 = .ok (.goto 4, 3) := by decide +kernel
theorem d_Te_isGood_78 : decode c_Te_isGood 78 = .ok (.iconst 0, 1) := by decide +kernel
theorem d_Te_isGood_79 : decode c_Te_isGood 79 = .ok (.ireturn, 1) := by decide +kernel
theorem d_L_law_0 : decode code 0 = .ok (.new 7, 3) := by decide +kernel
theorem d_L_law_3 : decode code 3 = .ok (.dup, 1) := by decide +kernel
theorem d_L_law_4 : decode code 4 = .ok (.invokespecial 9, 3) := by decide +kernel
theorem d_L_law_7 : decode code 7 = .ok (.astore_n 1, 1) := by decide +kernel
theorem d_L_law_8 : decode code 8 = .ok (.new 10, 3) := by decide +kernel
theorem d_L_law_11 : decode code 11 = .ok (.dup, 1) := by decide +kernel
theorem d_L_law_12 : decode code 12 = .ok (.invokespecial 12, 3) := by decide +kernel
theorem d_L_law_15 : decode code 15 = .ok (.astore_n 2, 1) := by decide +kernel
theorem d_L_law_16 : decode code 16 = .ok (.iconst 0, 1) := by decide +kernel
theorem d_L_law_17 : decode code 17 = .ok (.istore_n 3, 1) := by decide +kernel
theorem d_L_law_18 : decode code 18 = .ok (.iload_n 3, 1) := by decide +kernel
theorem d_L_law_19 : decode code 19 = .ok (.aload_n 0, 1) := by decide +kernel
theorem d_L_law_20 : decode code 20 = .ok (.arraylength, 1) := by decide +kernel
theorem d_L_law_21 : decode code 21 = .ok (.iconst 5, 1) := by decide +kernel
theorem d_L_law_22 : decode code 22 = .ok (.isub, 1) := by decide +kernel
theorem d_L_law_23 : decode code 23 = .ok (.if_icmp .gt 562, 3) := by decide +kernel
theorem d_L_law_26 : decode code 26 = .ok (.aload_n 0, 1) := by decide +kernel
theorem d_L_law_27 : decode code 27 = .ok (.iload_n 3, 1) := by decide +kernel
theorem d_L_law_28 : decode code 28 = .ok (.iaload, 1) := by decide +kernel
theorem d_L_law_29 : decode code 29 = .ok (.bipush 15, 2) := by decide +kernel
theorem d_L_law_31 : decode code 31 = .ok (.iand, 1) := by decide +kernel
theorem d_L_law_32 : decode code 32 = .ok (.tableswitch 547 0 14 #[76, 89, 158, 181, 224, 267, 300, 333, 386, 409, 432, 445, 468, 491, 524], 76) := by decide +kernel
theorem d_L_law_108 : decode code 108 = .ok (.aload_n 1, 1) := by decide +kernel
theorem d_L_law_109 : decode code 109 = .ok (.invokevirtual 13, 3) := by decide +kernel
theorem d_L_law_112 : decode code 112 = .ok (.aload_n 2, 1) := by decide +kernel
theorem d_L_law_113 : decode code 113 = .ok (.invokevirtual 17, 3) := by decide +kernel
theorem d_L_law_116 : decode code 116 = .ok (.if_icmp .eq 463, 3) := by decide +kernel
theorem d_L_law_119 : decode code 119 = .ok (.iconst 0, 1) := by decide +kernel
theorem d_L_law_120 : decode code 120 = .ok (.ireturn, 1) := by decide +kernel
theorem d_L_law_121 : decode code 121 = .ok (.aload_n 1, 1) := by decide +kernel
theorem d_L_law_122 : decode code 122 = .ok (.aload_n 0, 1) := by decide +kernel
theorem d_L_law_123 : decode code 123 = .ok (.iload_n 3, 1) := by decide +kernel
theorem d_L_law_124 : decode code 124 = .ok (.iconst 1, 1) := by decide +kernel
theorem d_L_law_125 : decode code 125 = .ok (.iadd, 1) := by decide +kernel
theorem d_L_law_126 : decode code 126 = .ok (.iaload, 1) := by decide +kernel
theorem d_L_law_127 : decode code 127 = .ok (.aload_n 0, 1) := by decide +kernel
theorem d_L_law_128 : decode code 128 = .ok (.iload_n 3, 1) := by decide +kernel
theorem d_L_law_129 : decode code 129 = .ok (.iconst 2, 1) := by decide +kernel
theorem d_L_law_130 : decode code 130 = .ok (.iadd, 1) := by decide +kernel
theorem d_L_law_131 : decode code 131 = .ok (.iaload, 1) := by decide +kernel
theorem d_L_law_132 : decode code 132 = .ok (.aload_n 0, 1) := by decide +kernel
theorem d_L_law_133 : decode code 133 = .ok (.iload_n 3, 1) := by decide +kernel
theorem d_L_law_134 : decode code 134 = .ok (.iconst 3, 1) := by decide +kernel
theorem d_L_law_135 : decode code 135 = .ok (.iadd, 1) := by decide +kernel
theorem d_L_law_136 : decode code 136 = .ok (.iaload, 1) := by decide +kernel
theorem d_L_law_137 : decode code 137 = .ok (.aload_n 0, 1) := by decide +kernel
theorem d_L_law_138 : decode code 138 = .ok (.iload_n 3, 1) := by decide +kernel
theorem d_L_law_139 : decode code 139 = .ok (.iconst 4, 1) := by decide +kernel
theorem d_L_law_140 : decode code 140 = .ok (.iadd, 1) := by decide +kernel
theorem d_L_law_141 : decode code 141 = .ok (.iaload, 1) := by decide +kernel
theorem d_L_law_142 : decode code 142 = .ok (.ifCond .eq 7, 3) := by decide +kernel
theorem d_L_law_145 : decode code 145 = .ok (.iconst 1, 1) := by decide +kernel
theorem d_L_law_146 : decode code 146 = .ok (.goto 4, 3) := by decide +kernel
theorem d_L_law_149 : decode code 149 = .ok (.iconst 0, 1) := by decide +kernel
theorem d_L_law_150 : decode code 150 = .ok (.invokevirtual 18, 3) := by decide +kernel
theorem d_L_law_153 : decode code 153 = .ok (.aload_n 2, 1) := by decide +kernel
theorem d_L_law_154 : decode code 154 = .ok (.aload_n 0, 1) := by decide +kernel
theorem d_L_law_155 : decode code 155 = .ok (.iload_n 3, 1) := by decide +kernel
theorem d_L_law_156 : decode code 156 = .ok (.iconst 1, 1) := by decide +kernel
theorem d_L_law_157 : decode code 157 = .ok (.iadd, 1) := by decide +kernel
theorem d_L_law_158 : decode code 158 = .ok (.iaload, 1) := by decide +kernel
theorem d_L_law_159 : decode code 159 = .ok (.aload_n 0, 1) := by decide +kernel
theorem d_L_law_160 : decode code 160 = .ok (.iload_n 3, 1) := by decide +kernel
theorem d_L_law_161 : decode code 161 = .ok (.iconst 2, 1) := by decide +kernel
theorem d_L_law_162 : decode code 162 = .ok (.iadd, 1) := by decide +kernel
theorem d_L_law_163 : decode code 163 = .ok (.iaload, 1) := by decide +kernel
theorem d_L_law_164 : decode code 164 = .ok (.aload_n 0, 1) := by decide +kernel
theorem d_L_law_165 : decode code 165 = .ok (.iload_n 3, 1) := by decide +kernel
theorem d_L_law_166 : decode code 166 = .ok (.iconst 3, 1) := by decide +kernel
theorem d_L_law_167 : decode code 167 = .ok (.iadd, 1) := by decide +kernel
theorem d_L_law_168 : decode code 168 = .ok (.iaload, 1) := by decide +kernel
theorem d_L_law_169 : decode code 169 = .ok (.aload_n 0, 1) := by decide +kernel
theorem d_L_law_170 : decode code 170 = .ok (.iload_n 3, 1) := by decide +kernel
theorem d_L_law_171 : decode code 171 = .ok (.iconst 4, 1) := by decide +kernel
theorem d_L_law_172 : decode code 172 = .ok (.iadd, 1) := by decide +kernel
theorem d_L_law_173 : decode code 173 = .ok (.iaload, 1) := by decide +kernel
theorem d_L_law_174 : decode code 174 = .ok (.ifCond .eq 7, 3) := by decide +kernel
theorem d_L_law_177 : decode code 177 = .ok (.iconst 1, 1) := by decide +kernel
theorem d_L_law_178 : decode code 178 = .ok (.goto 4, 3) := by decide +kernel
theorem d_L_law_181 : decode code 181 = .ok (.iconst 0, 1) := by decide +kernel
theorem d_L_law_182 : decode code 182 = .ok (.invokevirtual 22, 3) := by decide +kernel
theorem d_L_law_185 : decode code 185 = .ok (.if_icmp .eq 394, 3) := by decide +kernel
theorem d_L_law_188 : decode code 188 = .ok (.iconst 0, 1) := by decide +kernel
theorem d_L_law_189 : decode code 189 = .ok (.ireturn, 1) := by decide +kernel
theorem d_L_law_190 : decode code 190 = .ok (.aload_n 1, 1) := by decide +kernel
theorem d_L_law_191 : decode code 191 = .ok (.aload_n 0, 1) := by decide +kernel
theorem d_L_law_192 : decode code 192 = .ok (.iload_n 3, 1) := by decide +kernel
theorem d_L_law_193 : decode code 193 = .ok (.iconst 1, 1) := by decide +kernel
theorem d_L_law_194 : decode code 194 = .ok (.iadd, 1) := by decide +kernel
theorem d_L_law_195 : decode code 195 = .ok (.iaload, 1) := by decide +kernel
theorem d_L_law_196 : decode code 196 = .ok (.invokevirtual 23, 3) := by decide +kernel
theorem d_L_law_199 : decode code 199 = .ok (.aload_n 2, 1) := by decide +kernel
theorem d_L_law_200 : decode code 200 = .ok (.aload_n 0, 1) := by decide +kernel
theorem d_L_law_201 : decode code 201 = .ok (.iload_n 3, 1) := by decide +kernel
theorem d_L_law_202 : decode code 202 = .ok (.iconst 1, 1) := by decide +kernel
theorem d_L_law_203 : decode code 203 = .ok (.iadd, 1) := by decide +kernel
theorem d_L_law_204 : decode code 204 = .ok (.iaload, 1) := by decide +kernel
theorem d_L_law_205 : decode code 205 = .ok (.invokevirtual 27, 3) := by decide +kernel
theorem d_L_law_208 : decode code 208 = .ok (.if_icmp .eq 371, 3) := by decide +kernel
theorem d_L_law_211 : decode code 211 = .ok (.iconst 0, 1) := by decide +kernel
theorem d_L_law_212 : decode code 212 = .ok (.ireturn, 1) := by decide +kernel
theorem d_L_law_213 : decode code 213 = .ok (.aload_n 1, 1) := by decide +kernel
theorem d_L_law_214 : decode code 214 = .ok (.aload_n 0, 1) := by decide +kernel
theorem d_L_law_215 : decode code 215 = .ok (.iload_n 3, 1) := by decide +kernel
theorem d_L_law_216 : decode code 216 = .ok (.iconst 1, 1) := by decide +kernel
theorem d_L_law_217 : decode code 217 = .ok (.iadd, 1) := by decide +kernel
theorem d_L_law_218 : decode code 218 = .ok (.iaload, 1) := by decide +kernel
theorem d_L_law_219 : decode code 219 = .ok (.aload_n 0, 1) := by decide +kernel
theorem d_L_law_220 : decode code 220 = .ok (.iload_n 3, 1) := by decide +kernel
theorem d_L_law_221 : decode code 221 = .ok (.iconst 2, 1) := by decide +kernel
theorem d_L_law_222 : decode code 222 = .ok (.iadd, 1) := by decide +kernel
theorem d_L_law_223 : decode code 223 = .ok (.iaload, 1) := by decide +kernel
theorem d_L_law_224 : decode code 224 = .ok (.aload_n 0, 1) := by decide +kernel
theorem d_L_law_225 : decode code 225 = .ok (.iload_n 3, 1) := by decide +kernel
theorem d_L_law_226 : decode code 226 = .ok (.iconst 3, 1) := by decide +kernel
theorem d_L_law_227 : decode code 227 = .ok (.iadd, 1) := by decide +kernel
theorem d_L_law_228 : decode code 228 = .ok (.iaload, 1) := by decide +kernel
theorem d_L_law_229 : decode code 229 = .ok (.invokevirtual 28, 3) := by decide +kernel
theorem d_L_law_232 : decode code 232 = .ok (.aload_n 2, 1) := by decide +kernel
theorem d_L_law_233 : decode code 233 = .ok (.aload_n 0, 1) := by decide +kernel
theorem d_L_law_234 : decode code 234 = .ok (.iload_n 3, 1) := by decide +kernel
theorem d_L_law_235 : decode code 235 = .ok (.iconst 1, 1) := by decide +kernel
theorem d_L_law_236 : decode code 236 = .ok (.iadd, 1) := by decide +kernel
theorem d_L_law_237 : decode code 237 = .ok (.iaload, 1) := by decide +kernel
theorem d_L_law_238 : decode code 238 = .ok (.aload_n 0, 1) := by decide +kernel
theorem d_L_law_239 : decode code 239 = .ok (.iload_n 3, 1) := by decide +kernel
theorem d_L_law_240 : decode code 240 = .ok (.iconst 2, 1) := by decide +kernel
theorem d_L_law_241 : decode code 241 = .ok (.iadd, 1) := by decide +kernel
theorem d_L_law_242 : decode code 242 = .ok (.iaload, 1) := by decide +kernel
theorem d_L_law_243 : decode code 243 = .ok (.aload_n 0, 1) := by decide +kernel
theorem d_L_law_244 : decode code 244 = .ok (.iload_n 3, 1) := by decide +kernel
theorem d_L_law_245 : decode code 245 = .ok (.iconst 3, 1) := by decide +kernel
theorem d_L_law_246 : decode code 246 = .ok (.iadd, 1) := by decide +kernel
theorem d_L_law_247 : decode code 247 = .ok (.iaload, 1) := by decide +kernel
theorem d_L_law_248 : decode code 248 = .ok (.invokevirtual 32, 3) := by decide +kernel
theorem d_L_law_251 : decode code 251 = .ok (.if_icmp .eq 328, 3) := by decide +kernel
theorem d_L_law_254 : decode code 254 = .ok (.iconst 0, 1) := by decide +kernel
theorem d_L_law_255 : decode code 255 = .ok (.ireturn, 1) := by decide +kernel
theorem d_L_law_256 : decode code 256 = .ok (.aload_n 1, 1) := by decide +kernel
theorem d_L_law_257 : decode code 257 = .ok (.aload_n 0, 1) := by decide +kernel
theorem d_L_law_258 : decode code 258 = .ok (.iload_n 3, 1) := by decide +kernel
theorem d_L_law_259 : decode code 259 = .ok (.iconst 1, 1) := by decide +kernel
theorem d_L_law_260 : decode code 260 = .ok (.iadd, 1) := by decide +kernel
theorem d_L_law_261 : decode code 261 = .ok (.iaload, 1) := by decide +kernel
theorem d_L_law_262 : decode code 262 = .ok (.aload_n 0, 1) := by decide +kernel
theorem d_L_law_263 : decode code 263 = .ok (.iload_n 3, 1) := by decide +kernel
theorem d_L_law_264 : decode code 264 = .ok (.iconst 2, 1) := by decide +kernel
theorem d_L_law_265 : decode code 265 = .ok (.iadd, 1) := by decide +kernel
theorem d_L_law_266 : decode code 266 = .ok (.iaload, 1) := by decide +kernel
theorem d_L_law_267 : decode code 267 = .ok (.aload_n 0, 1) := by decide +kernel
theorem d_L_law_268 : decode code 268 = .ok (.iload_n 3, 1) := by decide +kernel
theorem d_L_law_269 : decode code 269 = .ok (.iconst 3, 1) := by decide +kernel
theorem d_L_law_270 : decode code 270 = .ok (.iadd, 1) := by decide +kernel
theorem d_L_law_271 : decode code 271 = .ok (.iaload, 1) := by decide +kernel
theorem d_L_law_272 : decode code 272 = .ok (.invokevirtual 33, 3) := by decide +kernel
theorem d_L_law_275 : decode code 275 = .ok (.aload_n 2, 1) := by decide +kernel
theorem d_L_law_276 : decode code 276 = .ok (.aload_n 0, 1) := by decide +kernel
theorem d_L_law_277 : decode code 277 = .ok (.iload_n 3, 1) := by decide +kernel
theorem d_L_law_278 : decode code 278 = .ok (.iconst 1, 1) := by decide +kernel
theorem d_L_law_279 : decode code 279 = .ok (.iadd, 1) := by decide +kernel
theorem d_L_law_280 : decode code 280 = .ok (.iaload, 1) := by decide +kernel
theorem d_L_law_281 : decode code 281 = .ok (.aload_n 0, 1) := by decide +kernel
theorem d_L_law_282 : decode code 282 = .ok (.iload_n 3, 1) := by decide +kernel
theorem d_L_law_283 : decode code 283 = .ok (.iconst 2, 1) := by decide +kernel
theorem d_L_law_284 : decode code 284 = .ok (.iadd, 1) := by decide +kernel
theorem d_L_law_285 : decode code 285 = .ok (.iaload, 1) := by decide +kernel
theorem d_L_law_286 : decode code 286 = .ok (.aload_n 0, 1) := by decide +kernel
theorem d_L_law_287 : decode code 287 = .ok (.iload_n 3, 1) := by decide +kernel
theorem d_L_law_288 : decode code 288 = .ok (.iconst 3, 1) := by decide +kernel
theorem d_L_law_289 : decode code 289 = .ok (.iadd, 1) := by decide +kernel
theorem d_L_law_290 : decode code 290 = .ok (.iaload, 1) := by decide +kernel
theorem d_L_law_291 : decode code 291 = .ok (.invokevirtual 36, 3) := by decide +kernel
theorem d_L_law_294 : decode code 294 = .ok (.if_icmp .eq 285, 3) := by decide +kernel
theorem d_L_law_297 : decode code 297 = .ok (.iconst 0, 1) := by decide +kernel
theorem d_L_law_298 : decode code 298 = .ok (.ireturn, 1) := by decide +kernel
theorem d_L_law_299 : decode code 299 = .ok (.aload_n 1, 1) := by decide +kernel
theorem d_L_law_300 : decode code 300 = .ok (.aload_n 0, 1) := by decide +kernel
theorem d_L_law_301 : decode code 301 = .ok (.iload_n 3, 1) := by decide +kernel
theorem d_L_law_302 : decode code 302 = .ok (.iconst 1, 1) := by decide +kernel
theorem d_L_law_303 : decode code 303 = .ok (.iadd, 1) := by decide +kernel
theorem d_L_law_304 : decode code 304 = .ok (.iaload, 1) := by decide +kernel
theorem d_L_law_305 : decode code 305 = .ok (.aload_n 0, 1) := by decide +kernel
theorem d_L_law_306 : decode code 306 = .ok (.iload_n 3, 1) := by decide +kernel
theorem d_L_law_307 : decode code 307 = .ok (.iconst 2, 1) := by decide +kernel
theorem d_L_law_308 : decode code 308 = .ok (.iadd, 1) := by decide +kernel
theorem d_L_law_309 : decode code 309 = .ok (.iaload, 1) := by decide +kernel
theorem d_L_law_310 : decode code 310 = .ok (.invokevirtual 37, 3) := by decide +kernel
theorem d_L_law_313 : decode code 313 = .ok (.aload_n 2, 1) := by decide +kernel
theorem d_L_law_314 : decode code 314 = .ok (.aload_n 0, 1) := by decide +kernel
theorem d_L_law_315 : decode code 315 = .ok (.iload_n 3, 1) := by decide +kernel
theorem d_L_law_316 : decode code 316 = .ok (.iconst 1, 1) := by decide +kernel
theorem d_L_law_317 : decode code 317 = .ok (.iadd, 1) := by decide +kernel
theorem d_L_law_318 : decode code 318 = .ok (.iaload, 1) := by decide +kernel
theorem d_L_law_319 : decode code 319 = .ok (.aload_n 0, 1) := by decide +kernel
theorem d_L_law_320 : decode code 320 = .ok (.iload_n 3, 1) := by decide +kernel
theorem d_L_law_321 : decode code 321 = .ok (.iconst 2, 1) := by decide +kernel
theorem d_L_law_322 : decode code 322 = .ok (.iadd, 1) := by decide +kernel
theorem d_L_law_323 : decode code 323 = .ok (.iaload, 1) := by decide +kernel
theorem d_L_law_324 : decode code 324 = .ok (.invokevirtual 41, 3) := by decide +kernel
theorem d_L_law_327 : decode code 327 = .ok (.if_icmp .eq 252, 3) := by decide +kernel
theorem d_L_law_330 : decode code 330 = .ok (.iconst 0, 1) := by decide +kernel
theorem d_L_law_331 : decode code 331 = .ok (.ireturn, 1) := by decide +kernel
theorem d_L_law_332 : decode code 332 = .ok (.aload_n 1, 1) := by decide +kernel
theorem d_L_law_333 : decode code 333 = .ok (.aload_n 0, 1) := by decide +kernel
theorem d_L_law_334 : decode code 334 = .ok (.iload_n 3, 1) := by decide +kernel
theorem d_L_law_335 : decode code 335 = .ok (.iconst 1, 1) := by decide +kernel
theorem d_L_law_336 : decode code 336 = .ok (.iadd, 1) := by decide +kernel
theorem d_L_law_337 : decode code 337 = .ok (.iaload, 1) := by decide +kernel
theorem d_L_law_338 : decode code 338 = .ok (.aload_n 0, 1) := by decide +kernel
theorem d_L_law_339 : decode code 339 = .ok (.iload_n 3, 1) := by decide +kernel
theorem d_L_law_340 : decode code 340 = .ok (.iconst 2, 1) := by decide +kernel
theorem d_L_law_341 : decode code 341 = .ok (.iadd, 1) := by decide +kernel
theorem d_L_law_342 : decode code 342 = .ok (.iaload, 1) := by decide +kernel
theorem d_L_law_343 : decode code 343 = .ok (.invokevirtual 42, 3) := by decide +kernel
theorem d_L_law_346 : decode code 346 = .ok (.aload_n 2, 1) := by decide +kernel
theorem d_L_law_347 : decode code 347 = .ok (.aload_n 0, 1) := by decide +kernel
theorem d_L_law_348 : decode code 348 = .ok (.iload_n 3, 1) := by decide +kernel
theorem d_L_law_349 : decode code 349 = .ok (.iconst 1, 1) := by decide +kernel
theorem d_L_law_350 : decode code 350 = .ok (.iadd, 1) := by decide +kernel
theorem d_L_law_351 : decode code 351 = .ok (.iaload, 1) := by decide +kernel
theorem d_L_law_352 : decode code 352 = .ok (.aload_n 0, 1) := by decide +kernel
theorem d_L_law_353 : decode code 353 = .ok (.iload_n 3, 1) := by decide +kernel
theorem d_L_law_354 : decode code 354 = .ok (.iconst 2, 1) := by decide +kernel
theorem d_L_law_355 : decode code 355 = .ok (.iadd, 1) := by decide +kernel
theorem d_L_law_356 : decode code 356 = .ok (.iaload, 1) := by decide +kernel
theorem d_L_law_357 : decode code 357 = .ok (.invokevirtual 45, 3) := by decide +kernel
theorem d_L_law_360 : decode code 360 = .ok (.if_icmp .eq 219, 3) := by decide +kernel
theorem d_L_law_363 : decode code 363 = .ok (.iconst 0, 1) := by decide +kernel
theorem d_L_law_364 : decode code 364 = .ok (.ireturn, 1) := by decide +kernel
theorem d_L_law_365 : decode code 365 = .ok (.aload_n 1, 1) := by decide +kernel
theorem d_L_law_366 : decode code 366 = .ok (.aload_n 0, 1) := by decide +kernel
theorem d_L_law_367 : decode code 367 = .ok (.iload_n 3, 1) := by decide +kernel
theorem d_L_law_368 : decode code 368 = .ok (.iconst 1, 1) := by decide +kernel
theorem d_L_law_369 : decode code 369 = .ok (.iadd, 1) := by decide +kernel
theorem d_L_law_370 : decode code 370 = .ok (.iaload, 1) := by decide +kernel
theorem d_L_law_371 : decode code 371 = .ok (.aload_n 0, 1) := by decide +kernel
theorem d_L_law_372 : decode code 372 = .ok (.iload_n 3, 1) := by decide +kernel
theorem d_L_law_373 : decode code 373 = .ok (.iconst 2, 1) := by decide +kernel
theorem d_L_law_374 : decode code 374 = .ok (.iadd, 1) := by decide +kernel
theorem d_L_law_375 : decode code 375 = .ok (.iaload, 1) := by decide +kernel
theorem d_L_law_376 : decode code 376 = .ok (.aload_n 0, 1) := by decide +kernel
theorem d_L_law_377 : decode code 377 = .ok (.iload_n 3, 1) := by decide +kernel
theorem d_L_law_378 : decode code 378 = .ok (.iconst 3, 1) := by decide +kernel
theorem d_L_law_379 : decode code 379 = .ok (.iadd, 1) := by decide +kernel
theorem d_L_law_380 : decode code 380 = .ok (.iaload, 1) := by decide +kernel
theorem d_L_law_381 : decode code 381 = .ok (.aload_n 0, 1) := by decide +kernel
theorem d_L_law_382 : decode code 382 = .ok (.iload_n 3, 1) := by decide +kernel
theorem d_L_law_383 : decode code 383 = .ok (.iconst 4, 1) := by decide +kernel
theorem d_L_law_384 : decode code 384 = .ok (.iadd, 1) := by decide +kernel
theorem d_L_law_385 : decode code 385 = .ok (.iaload, 1) := by decide +kernel
theorem d_L_law_386 : decode code 386 = .ok (.invokevirtual 46, 3) := by decide +kernel
theorem d_L_law_389 : decode code 389 = .ok (.aload_n 2, 1) := by decide +kernel
theorem d_L_law_390 : decode code 390 = .ok (.aload_n 0, 1) := by decide +kernel
theorem d_L_law_391 : decode code 391 = .ok (.iload_n 3, 1) := by decide +kernel
theorem d_L_law_392 : decode code 392 = .ok (.iconst 1, 1) := by decide +kernel
theorem d_L_law_393 : decode code 393 = .ok (.iadd, 1) := by decide +kernel
theorem d_L_law_394 : decode code 394 = .ok (.iaload, 1) := by decide +kernel
theorem d_L_law_395 : decode code 395 = .ok (.aload_n 0, 1) := by decide +kernel
theorem d_L_law_396 : decode code 396 = .ok (.iload_n 3, 1) := by decide +kernel
theorem d_L_law_397 : decode code 397 = .ok (.iconst 2, 1) := by decide +kernel
theorem d_L_law_398 : decode code 398 = .ok (.iadd, 1) := by decide +kernel
theorem d_L_law_399 : decode code 399 = .ok (.iaload, 1) := by decide +kernel
theorem d_L_law_400 : decode code 400 = .ok (.aload_n 0, 1) := by decide +kernel
theorem d_L_law_401 : decode code 401 = .ok (.iload_n 3, 1) := by decide +kernel
theorem d_L_law_402 : decode code 402 = .ok (.iconst 3, 1) := by decide +kernel
theorem d_L_law_403 : decode code 403 = .ok (.iadd, 1) := by decide +kernel
theorem d_L_law_404 : decode code 404 = .ok (.iaload, 1) := by decide +kernel
theorem d_L_law_405 : decode code 405 = .ok (.aload_n 0, 1) := by decide +kernel
theorem d_L_law_406 : decode code 406 = .ok (.iload_n 3, 1) := by decide +kernel
theorem d_L_law_407 : decode code 407 = .ok (.iconst 4, 1) := by decide +kernel
theorem d_L_law_408 : decode code 408 = .ok (.iadd, 1) := by decide +kernel
theorem d_L_law_409 : decode code 409 = .ok (.iaload, 1) := by decide +kernel
theorem d_L_law_410 : decode code 410 = .ok (.invokevirtual 50, 3) := by decide +kernel
theorem d_L_law_413 : decode code 413 = .ok (.if_icmp .eq 166, 3) := by decide +kernel
theorem d_L_law_416 : decode code 416 = .ok (.iconst 0, 1) := by decide +kernel
theorem d_L_law_417 : decode code 417 = .ok (.ireturn, 1) := by decide +kernel
theorem d_L_law_418 : decode code 418 = .ok (.aload_n 1, 1) := by decide +kernel
theorem d_L_law_419 : decode code 419 = .ok (.aload_n 0, 1) := by decide +kernel
theorem d_L_law_420 : decode code 420 = .ok (.iload_n 3, 1) := by decide +kernel
theorem d_L_law_421 : decode code 421 = .ok (.iconst 1, 1) := by decide +kernel
theorem d_L_law_422 : decode code 422 = .ok (.iadd, 1) := by decide +kernel
theorem d_L_law_423 : decode code 423 = .ok (.iaload, 1) := by decide +kernel
theorem d_L_law_424 : decode code 424 = .ok (.invokevirtual 51, 3) := by decide +kernel
theorem d_L_law_427 : decode code 427 = .ok (.aload_n 2, 1) := by decide +kernel
theorem d_L_law_428 : decode code 428 = .ok (.aload_n 0, 1) := by decide +kernel
theorem d_L_law_429 : decode code 429 = .ok (.iload_n 3, 1) := by decide +kernel
theorem d_L_law_430 : decode code 430 = .ok (.iconst 1, 1) := by decide +kernel
theorem d_L_law_431 : decode code 431 = .ok (.iadd, 1) := by decide +kernel
theorem d_L_law_432 : decode code 432 = .ok (.iaload, 1) := by decide +kernel
theorem d_L_law_433 : decode code 433 = .ok (.invokevirtual 54, 3) := by decide +kernel
theorem d_L_law_436 : decode code 436 = .ok (.if_icmp .eq 143, 3) := by decide +kernel
theorem d_L_law_439 : decode code 439 = .ok (.iconst 0, 1) := by decide +kernel
theorem d_L_law_440 : decode code 440 = .ok (.ireturn, 1) := by decide +kernel
theorem d_L_law_441 : decode code 441 = .ok (.aload_n 1, 1) := by decide +kernel
theorem d_L_law_442 : decode code 442 = .ok (.aload_n 0, 1) := by decide +kernel
theorem d_L_law_443 : decode code 443 = .ok (.iload_n 3, 1) := by decide +kernel
theorem d_L_law_444 : decode code 444 = .ok (.iconst 1, 1) := by decide +kernel
theorem d_L_law_445 : decode code 445 = .ok (.iadd, 1) := by decide +kernel
theorem d_L_law_446 : decode code 446 = .ok (.iaload, 1) := by decide +kernel
theorem d_L_law_447 : decode code 447 = .ok (.invokevirtual 55, 3) := by decide +kernel
theorem d_L_law_450 : decode code 450 = .ok (.aload_n 2, 1) := by decide +kernel
theorem d_L_law_451 : decode code 451 = .ok (.aload_n 0, 1) := by decide +kernel
theorem d_L_law_452 : decode code 452 = .ok (.iload_n 3, 1) := by decide +kernel
theorem d_L_law_453 : decode code 453 = .ok (.iconst 1, 1) := by decide +kernel
theorem d_L_law_454 : decode code 454 = .ok (.iadd, 1) := by decide +kernel
theorem d_L_law_455 : decode code 455 = .ok (.iaload, 1) := by decide +kernel
theorem d_L_law_456 : decode code 456 = .ok (.invokevirtual 58, 3) := by decide +kernel
theorem d_L_law_459 : decode code 459 = .ok (.if_icmp .eq 120, 3) := by decide +kernel
theorem d_L_law_462 : decode code 462 = .ok (.iconst 0, 1) := by decide +kernel
theorem d_L_law_463 : decode code 463 = .ok (.ireturn, 1) := by decide +kernel
theorem d_L_law_464 : decode code 464 = .ok (.aload_n 1, 1) := by decide +kernel
theorem d_L_law_465 : decode code 465 = .ok (.invokevirtual 59, 3) := by decide +kernel
theorem d_L_law_468 : decode code 468 = .ok (.aload_n 2, 1) := by decide +kernel
theorem d_L_law_469 : decode code 469 = .ok (.invokevirtual 62, 3) := by decide +kernel
theorem d_L_law_472 : decode code 472 = .ok (.if_icmp .eq 107, 3) := by decide +kernel
theorem d_L_law_475 : decode code 475 = .ok (.iconst 0, 1) := by decide +kernel
theorem d_L_law_476 : decode code 476 = .ok (.ireturn, 1) := by decide +kernel
theorem d_L_law_477 : decode code 477 = .ok (.aload_n 1, 1) := by decide +kernel
theorem d_L_law_478 : decode code 478 = .ok (.aload_n 0, 1) := by decide +kernel
theorem d_L_law_479 : decode code 479 = .ok (.iload_n 3, 1) := by decide +kernel
theorem d_L_law_480 : decode code 480 = .ok (.iconst 1, 1) := by decide +kernel
theorem d_L_law_481 : decode code 481 = .ok (.iadd, 1) := by decide +kernel
theorem d_L_law_482 : decode code 482 = .ok (.iaload, 1) := by decide +kernel
theorem d_L_law_483 : decode code 483 = .ok (.invokevirtual 63, 3) := by decide +kernel
theorem d_L_law_486 : decode code 486 = .ok (.aload_n 2, 1) := by decide +kernel
theorem d_L_law_487 : decode code 487 = .ok (.aload_n 0, 1) := by decide +kernel
theorem d_L_law_488 : decode code 488 = .ok (.iload_n 3, 1) := by decide +kernel
theorem d_L_law_489 : decode code 489 = .ok (.iconst 1, 1) := by decide +kernel
theorem d_L_law_490 : decode code 490 = .ok (.iadd, 1) := by decide +kernel
theorem d_L_law_491 : decode code 491 = .ok (.iaload, 1) := by decide +kernel
theorem d_L_law_492 : decode code 492 = .ok (.invokevirtual 66, 3) := by decide +kernel
theorem d_L_law_495 : decode code 495 = .ok (.if_icmp .eq 84, 3) := by decide +kernel
theorem d_L_law_498 : decode code 498 = .ok (.iconst 0, 1) := by decide +kernel
theorem d_L_law_499 : decode code 499 = .ok (.ireturn, 1) := by decide +kernel
theorem d_L_law_500 : decode code 500 = .ok (.aload_n 1, 1) := by decide +kernel
theorem d_L_law_501 : decode code 501 = .ok (.aload_n 0, 1) := by decide +kernel
theorem d_L_law_502 : decode code 502 = .ok (.iload_n 3, 1) := by decide +kernel
theorem d_L_law_503 : decode code 503 = .ok (.iconst 1, 1) := by decide +kernel
theorem d_L_law_504 : decode code 504 = .ok (.iadd, 1) := by decide +kernel
theorem d_L_law_505 : decode code 505 = .ok (.iaload, 1) := by decide +kernel
theorem d_L_law_506 : decode code 506 = .ok (.invokevirtual 67, 3) := by decide +kernel
theorem d_L_law_509 : decode code 509 = .ok (.aload_n 2, 1) := by decide +kernel
theorem d_L_law_510 : decode code 510 = .ok (.aload_n 0, 1) := by decide +kernel
theorem d_L_law_511 : decode code 511 = .ok (.iload_n 3, 1) := by decide +kernel
theorem d_L_law_512 : decode code 512 = .ok (.iconst 1, 1) := by decide +kernel
theorem d_L_law_513 : decode code 513 = .ok (.iadd, 1) := by decide +kernel
theorem d_L_law_514 : decode code 514 = .ok (.iaload, 1) := by decide +kernel
theorem d_L_law_515 : decode code 515 = .ok (.invokevirtual 70, 3) := by decide +kernel
theorem d_L_law_518 : decode code 518 = .ok (.if_icmp .eq 61, 3) := by decide +kernel
theorem d_L_law_521 : decode code 521 = .ok (.iconst 0, 1) := by decide +kernel
theorem d_L_law_522 : decode code 522 = .ok (.ireturn, 1) := by decide +kernel
theorem d_L_law_523 : decode code 523 = .ok (.aload_n 1, 1) := by decide +kernel
theorem d_L_law_524 : decode code 524 = .ok (.aload_n 0, 1) := by decide +kernel
theorem d_L_law_525 : decode code 525 = .ok (.iload_n 3, 1) := by decide +kernel
theorem d_L_law_526 : decode code 526 = .ok (.iconst 1, 1) := by decide +kernel
theorem d_L_law_527 : decode code 527 = .ok (.iadd, 1) := by decide +kernel
theorem d_L_law_528 : decode code 528 = .ok (.iaload, 1) := by decide +kernel
theorem d_L_law_529 : decode code 529 = .ok (.aload_n 0, 1) := by decide +kernel
theorem d_L_law_530 : decode code 530 = .ok (.iload_n 3, 1) := by decide +kernel
theorem d_L_law_531 : decode code 531 = .ok (.iconst 2, 1) := by decide +kernel
theorem d_L_law_532 : decode code 532 = .ok (.iadd, 1) := by decide +kernel
theorem d_L_law_533 : decode code 533 = .ok (.iaload, 1) := by decide +kernel
theorem d_L_law_534 : decode code 534 = .ok (.invokevirtual 71, 3) := by decide +kernel
theorem d_L_law_537 : decode code 537 = .ok (.aload_n 2, 1) := by decide +kernel
theorem d_L_law_538 : decode code 538 = .ok (.aload_n 0, 1) := by decide +kernel
theorem d_L_law_539 : decode code 539 = .ok (.iload_n 3, 1) := by decide +kernel
theorem d_L_law_540 : decode code 540 = .ok (.iconst 1, 1) := by decide +kernel
theorem d_L_law_541 : decode code 541 = .ok (.iadd, 1) := by decide +kernel
theorem d_L_law_542 : decode code 542 = .ok (.iaload, 1) := by decide +kernel
end
section
theorem d_L_law_543 : decode code 543 = .ok (.aload_n 0, 1) := by decide +kernel
theorem d_L_law_544 : decode code 544 = .ok (.iload_n 3, 1) := by decide +kernel
theorem d_L_law_545 : decode code 545 = .ok (.iconst 2, 1) := by decide +kernel
theorem d_L_law_546 : decode code 546 = .ok (.iadd, 1) := by decide +kernel
theorem d_L_law_547 : decode code 547 = .ok (.iaload, 1) := by decide +kernel
theorem d_L_law_548 : decode code 548 = .ok (.invokevirtual 74, 3) := by decide +kernel
theorem d_L_law_551 : decode code 551 = .ok (.if_icmp .eq 28, 3) := by decide +kernel
theorem d_L_law_554 : decode code 554 = .ok (.iconst 0, 1) := by decide +kernel
theorem d_L_law_555 : decode code 555 = .ok (.ireturn, 1) := by decide +kernel
theorem d_L_law_556 : decode code 556 = .ok (.aload_n 1, 1) := by decide +kernel
theorem d_L_law_557 : decode code 557 = .ok (.aload_n 0, 1) := by decide +kernel
theorem d_L_law_558 : decode code 558 = .ok (.iload_n 3, 1) := by decide +kernel
theorem d_L_law_559 : decode code 559 = .ok (.iconst 1, 1) := by decide +kernel
theorem d_L_law_560 : decode code 560 = .ok (.iadd, 1) := by decide +kernel
theorem d_L_law_561 : decode code 561 = .ok (.iaload, 1) := by decide +kernel
theorem d_L_law_562 : decode code 562 = .ok (.invokevirtual 75, 3) := by decide +kernel
theorem d_L_law_565 : decode code 565 = .ok (.aload_n 2, 1) := by decide +kernel
theorem d_L_law_566 : decode code 566 = .ok (.aload_n 0, 1) := by decide +kernel
theorem d_L_law_567 : decode code 567 = .ok (.iload_n 3, 1) := by decide +kernel
theorem d_L_law_568 : decode code 568 = .ok (.iconst 1, 1) := by decide +kernel
theorem d_L_law_569 : decode code 569 = .ok (.iadd, 1) := by decide +kernel
theorem d_L_law_570 : decode code 570 = .ok (.iaload, 1) := by decide +kernel
theorem d_L_law_571 : decode code 571 = .ok (.invokevirtual 78, 3) := by decide +kernel
theorem d_L_law_574 : decode code 574 = .ok (.if_icmp .eq 5, 3) := by decide +kernel
theorem d_L_law_577 : decode code 577 = .ok (.iconst 0, 1) := by decide +kernel
theorem d_L_law_578 : decode code 578 = .ok (.ireturn, 1) := by decide +kernel
theorem d_L_law_579 : decode code 579 = .ok (.iinc 3 5, 3) := by decide +kernel
theorem d_L_law_582 : decode code 582 = .ok (.goto (-564), 3) := by decide +kernel
theorem d_L_law_585 : decode code 585 = .ok (.iconst 1, 1) := by decide +kernel
theorem d_L_law_586 : decode code 586 = .ok (.ireturn, 1) := by decide +kernel
end
section
/-! FRAME. The machine seen through whole numbers: a cell is a number c (its address is b0 + c), what it holds is M c k (an int, or the number of a cell, negative for null); 'AW' is W at such a state. -/
abbrev AV : Type := Int ⊕ Int
abbrev Mem : Type := Int → Int → Int
abbrev rg (x : Int) : Prop := -2147483648 ≤ x ∧ x ≤ 2147483647
def fx_v : AV → Int
  | .inl i => i
  | .inr r => r
def fx_rf (b0 : Nat) (r : Int) : Option Nat := if r < 0 then none else some (b0 + r.toNat)
def fx_co (b0 : Nat) (v : AV) : Value := match v with
  | .inl i => .int (Int32.ofInt i)
  | .inr r => va_rf (fx_rf b0 r)
theorem fx_cat (b0 : Nat) (v : AV) : (fx_co b0 v).category = 1 := by
  cases v with
  | inl i => rfl
  | inr r =>
    show (va_rf (fx_rf b0 r)).category = 1
    rcases va_rf_or (fx_rf b0 r) with h | ⟨a, h⟩ <;> rw [h] <;> rfl
abbrev fx_ok (v : AV) : Prop := rg (fx_v v)
def fx_okS (st : List AV) : Prop := ∀ v ∈ st, fx_ok v
def fx_okL (la : List (Option AV)) : Prop := ∀ v : AV, some v ∈ la → fx_ok v
/-- slots that never change once the system is built: which (class ci, field k; the array of the steps), and what they hold -/
def fx_gc (M : Mem) : Prop := ∀ c k : Int, fx_kk (fx_ly c).1 k = true → M c k = fx_cv c k
def fx_okM (g : Bool) (M : Mem) : Prop := (∀ c k : Int, rg (M c k)) ∧ (g = true → fx_gc M)
def fx_okO (r : Option AV) : Prop := ∀ v : AV, r = some v → fx_ok v
def up (M : Mem) (c k v : Int) : Mem := fun c' k' => if c' = c ∧ k' = k then v else M c' k'
theorem up_eq (M : Mem) (c k v : Int) : up M c k v c k = v := by simp [up]
theorem up_nc {M : Mem} {c k v c' k' : Int} (h : c' ≠ c) : up M c k v c' k' = M c' k' := by simp [up, h]
theorem up_nk {M : Mem} {c k v c' k' : Int} (h : k' ≠ k) : up M c k v c' k' = M c' k' := by simp [up, h]
theorem fx_okM_up {g : Bool} {M : Mem} {c k v : Int} (h : fx_okM g M) (hv : rg v) (hk : g = true → fx_kk (fx_ly c).1 k = false) : fx_okM g (up M c k v) := by
  refine ⟨fun c' k' => ?_, fun hg c' k' h2 => ?_⟩
  · unfold up
    split
    · exact hv
    · exact h.1 c' k'
  · unfold up
    split
    · rename_i e
      rw [e.1, e.2, hk hg] at h2
      cases h2
    · exact h.2 hg c' k' h2
theorem fx_toI {i : Int} (h : rg i) : (Int32.ofInt i).toInt = i := Int32.toInt_ofInt_of_le (by omega) (by omega)
theorem fx_lt {i j : Int} (h : rg i) (g : rg j) : Int32.ofInt i < Int32.ofInt j ↔ i < j := by rw [Int32.lt_iff_toInt_lt, fx_toI h, fx_toI g]
theorem fx_le {i j : Int} (h : rg i) (g : rg j) : Int32.ofInt i ≤ Int32.ofInt j ↔ i ≤ j := by rw [Int32.le_iff_toInt_le, fx_toI h, fx_toI g]
theorem fx_eq {i j : Int} (h : rg i) (g : rg j) : Int32.ofInt i = Int32.ofInt j ↔ i = j := by rw [← Int32.toInt_inj, fx_toI h, fx_toI g]
theorem fx_lt0 {i : Int} (h : rg i) : Int32.ofInt i < 0 ↔ i < 0 := by rw [Int32.lt_iff_toInt_lt, fx_toI h, Int32.toInt_zero]
theorem fx_le0 {i : Int} (h : rg i) : Int32.ofInt i ≤ 0 ↔ i ≤ 0 := by rw [Int32.le_iff_toInt_le, fx_toI h, Int32.toInt_zero]
theorem fx_0lt {i : Int} (h : rg i) : 0 < Int32.ofInt i ↔ 0 < i := by rw [Int32.lt_iff_toInt_lt, fx_toI h, Int32.toInt_zero]
theorem fx_0le {i : Int} (h : rg i) : 0 ≤ Int32.ofInt i ↔ 0 ≤ i := by rw [Int32.le_iff_toInt_le, fx_toI h, Int32.toInt_zero]
theorem fx_eq0 {i : Int} (h : rg i) : Int32.ofInt i = 0 ↔ i = 0 := by rw [← Int32.toInt_inj, fx_toI h, Int32.toInt_zero]
theorem fx_clamp {i : Int} (h : rg i) : (Int32.ofInt i).toNatClampNeg = i.toNat := Int32.toNatClampNeg_ofInt_of_le (by omega) (by omega)
theorem fx_in {i : Int} {n : Nat} (h : 0 ≤ i) (h2 : i < n) (g : rg i) : vp_in (Int32.ofInt i) n := by
  rw [vp_in_iff, fx_toI g]; exact ⟨h, h2⟩
-- the world
def fx_fv (ci : Nat) (k : Nat) (x : Int) : AV := if fx_isr ci k = true then .inr x else .inl x
theorem fx_fv_v (ci k : Nat) (x : Int) : fx_v (fx_fv ci k x) = x := by unfold fx_fv; split <;> rfl
abbrev DD : Type := va_G × (Nat → ClassId)
def fx_fs (b0 ci N : Nat) (M : Mem) (c : Nat) : List Value := (List.range N).map (fun k => fx_co b0 (fx_fv ci k (M c k)))
def fx_en (b0 : Nat) (cA : Nat → ClassId) (M : Mem) (c : Nat) : va_E :=
  if (fx_ly c).1 = 100 then .inl (cA 0, (fx_ly c).2, .inl (fun j => Int32.ofInt (M c j)))
  else if (fx_ly c).1 = 101 then .inl (cA 1, (fx_ly c).2, .inl (fun j => Int32.ofInt (M c j)))
  else if (fx_ly c).1 = 102 then .inl (cA 2, (fx_ly c).2, .inr (.inr (.inr (.inr (fun j => fx_rf b0 (M c j))))))
  else .inr ((fx_ly c).1, fx_fs b0 (fx_ly c).1 (fx_ly c).2 M c)
def fx_wl (b0 : Nat) (cA : Nat → ClassId) (n : Nat) (M : Mem) : va_W := (List.range n).map (fun c => (b0 + c, fx_en b0 cA M c))
def fx_tys (D : DD) : List (ClassId × FieldType) := [(D.2 0, .int), (D.2 1, .boolean), (D.2 2, .object fx_elem)]
def Wd (b0 : Nat) (D : DD) (n : Nat) (M : Mem) (H : Heap) : Prop := H.size = b0 + n ∧ va_P D.1 vwCl (fx_wl b0 D.2 n M) H
theorem fx_wl_at {b0 : Nat} {cA : Nat → ClassId} {n : Nat} {M : Mem} {c : Nat} (h : c < n) : (fx_wl b0 cA n M)[c]? = some (b0 + c, fx_en b0 cA M c) := by
  simp [fx_wl, h]
theorem fx_wl_D {b0 : Nat} {cA : Nat → ClassId} {n : Nat} {M : Mem} : va_D (fun q => b0 ≤ q) (fx_wl b0 cA n M) := by
  have key : ∀ (k : Nat) (q : Nat × va_E), (fx_wl b0 cA n M)[k]? = some q → q.1 = b0 + k := by
    intro k q h
    simp only [fx_wl, List.getElem?_map, List.getElem?_range] at h
    by_cases hk : k < n
    · simp [hk] at h; rw [← h]
    · simp [hk] at h
  refine ⟨fun i j p q hi hj e => ?_, fun k q hk => ?_⟩
  · have := key i p hi; have := key j q hj; omega
  · have := key k q hk; omega
theorem fx_wl_set {b0 : Nat} {cA : Nat → ClassId} {n : Nat} {M M' : Mem} {c : Nat} (h : c < n) (he : ∀ d : Nat, d ≠ c → fx_en b0 cA M' d = fx_en b0 cA M d) : (fx_wl b0 cA n M).set c (b0 + c, fx_en b0 cA M' c) = fx_wl b0 cA n M' := by
  apply List.ext_getElem?
  intro j
  by_cases hj : j = c
  · subst hj
    rw [List.getElem?_set_self (by simp [fx_wl, h]), fx_wl_at h]
  · rw [List.getElem?_set_ne (Ne.symm hj)]
    simp only [fx_wl, List.getElem?_map]
    by_cases hn : j < n
    · simp [hn, he j hj]
    · simp [hn]
theorem fx_en_up {b0 : Nat} {cA : Nat → ClassId} {M : Mem} {c k v : Int} {d : Nat} (h : (d : Int) ≠ c) : fx_en b0 cA (up M c k v) d = fx_en b0 cA M d := by
  have e : ∀ j : Int, up M c k v d j = M d j := fun j => up_nc h
  simp only [fx_en, fx_fs, e]
theorem fx_en_o {b0 : Nat} {cA : Nat → ClassId} {M : Mem} {c ci N : Nat} (h : fx_ly c = (ci, N)) (hc : ci < 100) : fx_en b0 cA M c = .inr (ci, fx_fs b0 ci N M c) := by
  unfold fx_en; rw [h]; simp only; rw [if_neg (by omega), if_neg (by omega), if_neg (by omega)]
theorem fx_en_i {b0 : Nat} {cA : Nat → ClassId} {M : Mem} {c N : Nat} (h : fx_ly c = (100, N)) : fx_en b0 cA M c = .inl (cA 0, N, .inl (fun j => Int32.ofInt (M c j))) := by
  unfold fx_en; rw [h]; rfl
theorem fx_en_z {b0 : Nat} {cA : Nat → ClassId} {M : Mem} {c N : Nat} (h : fx_ly c = (101, N)) : fx_en b0 cA M c = .inl (cA 1, N, .inl (fun j => Int32.ofInt (M c j))) := by
  unfold fx_en; rw [h]; rfl
theorem fx_en_q {b0 : Nat} {cA : Nat → ClassId} {M : Mem} {c N : Nat} (h : fx_ly c = (102, N)) : fx_en b0 cA M c = .inl (cA 2, N, .inr (.inr (.inr (.inr (fun j => fx_rf b0 (M c j)))))) := by
  unfold fx_en; rw [h]; rfl
theorem fx_fs_at {b0 ci N : Nat} {M : Mem} {c k : Nat} (h : k < N) : (fx_fs b0 ci N M c)[k]? = some (fx_co b0 (fx_fv ci k (M c k))) := by
  simp [fx_fs, h]
theorem fx_fs_set {b0 ci N : Nat} {M : Mem} {c k : Nat} {v : Int} (h : k < N) : (fx_fs b0 ci N M c).set k (fx_co b0 (fx_fv ci k v)) = fx_fs b0 ci N (up M c k v) c := by
  apply List.ext_getElem?
  intro j
  by_cases hj : j = k
  · subst hj
    rw [List.getElem?_set_self (by simp [fx_fs, h]), fx_fs_at h, up_eq]
  · rw [List.getElem?_set_ne (Ne.symm hj)]
    by_cases hn : j < N
    · rw [fx_fs_at hn, fx_fs_at hn, up_nk (by omega)]
    · simp [fx_fs, hn]
-- locals
def fx_L (b0 : Nat) (ls : Array Slot) (la : List (Option AV)) : Prop := ls.size = la.length ∧ lv_wf ls ∧ ∀ (i : Nat) (v : AV), la[i]? = some (some v) → ls[i]? = some (.val (fx_co b0 v))
def fx_ll (b0 : Nat) : Nat → List (Option AV) → List (Nat × Value)
  | _, [] => []
  | i, none :: l => fx_ll b0 (i + 1) l
  | i, some v :: l => (i, fx_co b0 v) :: fx_ll b0 (i + 1) l
theorem fx_ll_mem {b0 : Nat} : ∀ (la : List (Option AV)) (i : Nat) (q : Nat × Value), q ∈ fx_ll b0 i la ↔ ∃ (j : Nat) (v : AV), la[j]? = some (some v) ∧ q = (i + j, fx_co b0 v)
  | [], i, q => by simp [fx_ll]
  | none :: l, i, q => by
    rw [fx_ll, fx_ll_mem l (i + 1) q]
    constructor
    · rintro ⟨j, v, h, rfl⟩
      exact ⟨j + 1, v, by simpa using h, by rw [Nat.add_right_comm]; rfl⟩
    · rintro ⟨j, v, h, rfl⟩
      cases j with
      | zero => simp at h
      | succ j => exact ⟨j, v, by simpa using h, by rw [Nat.add_right_comm]; rfl⟩
  | some w :: l, i, q => by
    rw [fx_ll, List.mem_cons, fx_ll_mem l (i + 1) q]
    constructor
    · rintro (rfl | ⟨j, v, h, rfl⟩)
      · exact ⟨0, w, by simp, by simp⟩
      · exact ⟨j + 1, v, by simpa using h, by rw [Nat.add_right_comm]; rfl⟩
    · rintro ⟨j, v, h, rfl⟩
      cases j with
      | zero => simp at h; subst h; exact Or.inl (by simp)
      | succ j => exact Or.inr ⟨j, v, by simpa using h, by rw [Nat.add_right_comm]; rfl⟩
theorem fx_L_has {b0 : Nat} {ls : Array Slot} {la : List (Option AV)} (h : fx_L b0 ls la) : lv_has ls la.length (fx_ll b0 0 la) := by
  refine ⟨h.1, h.2.1, fun q hq => ?_⟩
  obtain ⟨j, v, hj, rfl⟩ := (fx_ll_mem la 0 q).mp hq
  simp only [Nat.zero_add]
  exact h.2.2 j v hj
theorem fx_L_set {b0 : Nat} {ls' : Array Slot} {la : List (Option AV)} {i : Nat} {v : AV} (hi : i < la.length) (h : lv_has ls' la.length ((i, fx_co b0 v) :: (fx_ll b0 0 la).filter (fun q => !(q.1 == i) && !(q.1 + 1 == i && q.2.category == 2)))) : fx_L b0 ls' (la.set i (some v)) := by
  obtain ⟨h1, h2, h3⟩ := h
  refine ⟨by simpa using h1, h2, fun j w hj => ?_⟩
  by_cases e : j = i
  · subst e
    rw [List.getElem?_set_self hi] at hj
    cases hj
    exact h3 (j, fx_co b0 v) List.mem_cons_self
  · rw [List.getElem?_set_ne (Ne.symm e)] at hj
    refine h3 (j, fx_co b0 w) (List.mem_cons_of_mem _ (List.mem_filter.mpr ⟨(fx_ll_mem la 0 _).mpr ⟨j, w, hj, by simp⟩, ?_⟩))
    simp [e, fx_cat]
theorem fx_L_entry {b0 : Nat} : ∀ (as : List AV) (i : Nat), lv_args i (as.map (fx_co b0)) = fx_ll b0 i (as.map some)
  | [], _ => rfl
  | v :: l, i => by
    simp only [List.map_cons, lv_args, fx_ll, fx_cat]
    rw [if_neg (by decide), fx_L_entry l (i + 1)]
theorem fx_sl (b0 : Nat) : ∀ as : List AV, lg_sl (as.map (fx_co b0)) = as.map (fun v => Slot.val (fx_co b0 v))
  | [] => rfl
  | v :: l => by
    have := fx_sl b0 l
    simp only [lg_sl] at this ⊢
    simp only [List.map_cons, List.flatMap_cons, fx_cat, this]
    rfl
theorem fx_isI (ci k : Nat) (x : Int) (h : fx_isr ci k = false) : fx_fv ci k x = .inl x := by unfold fx_fv; rw [h]; rfl
theorem fx_isR (ci k : Nat) (x : Int) (h : fx_isr ci k = true) : fx_fv ci k x = .inr x := by unfold fx_fv; rw [h]; rfl
end
section
/-! ROWS of the abstract machine: one an instruction. -/
abbrev Cx := Program × Launch × Env × Room × State × MethodId × Array Value × List Frame × Method × Code
abbrev xp (X : Cx) : Program := X.1
abbrev xl (X : Cx) : Launch := X.2.1
abbrev xe (X : Cx) : Env := X.2.2.1
abbrev xR (X : Cx) : Room := X.2.2.2.1
abbrev xs (X : Cx) : State := X.2.2.2.2.1
abbrev xm (X : Cx) : MethodId := X.2.2.2.2.2.1
abbrev xa (X : Cx) : Array Value := X.2.2.2.2.2.2.1
abbrev xb (X : Cx) : List Frame := X.2.2.2.2.2.2.2.1
abbrev xt (X : Cx) : Method := X.2.2.2.2.2.2.2.2.1
abbrev xc (X : Cx) : Code := X.2.2.2.2.2.2.2.2.2
abbrev WX (X : Cx) (H : Heap) (locs : List Loc) (kc ks : Nat) (Q : State → Prop) (g : JFrame) : Prop := W (xp X) (xl X) (xe X) (xR X) (xs X) (xm X) (xa X) (xb X) (xt X) (xc X) H locs kc ks Q g
def AW (X : Cx) (b0 : Nat) (D : DD) (g : Bool) (kc ks : Nat) (Q : State → Prop) (n : Nat) (M : Mem) (pc : Nat) (la : List (Option AV)) (st : List AV) : Prop :=
  fx_okS st → fx_okL la → fx_okM g M → ∀ (H : Heap) (locs : List Loc) (ls : Array Slot), Wd b0 D n M H → va_S (fun q => b0 ≤ q) (xs X).heap H locs → fx_L b0 ls la → WX X H locs kc ks Q (F0 (xm X) pc ls (st.map (fx_co b0)))
/-- of a state: the classes and array classes as the tables have them; the array of steps can be made; the links between nest mates -/
def fx_KK (D : DD) (U : State) : Prop := va_K D.1 vwCl (fx_tys D) U ∧ va_AO fx_elem U ∧ ∀ q ∈ fx_nest, va_Nw (.methodLinkNest q.1 q.2.1 q.2.2.1 q.2.2.2) U
theorem fx_KK.warm {D : DD} {u U : State} (hW : u.WarmedH U.vm) (h : fx_KK D u) : fx_KK D U := ⟨h.1.moved hW.alike, va_AO.moved hW.alike h.2.1, fun q hq => va_Nw.warmM hW (h.2.2 q hq)⟩
theorem fx_KK.same {D : DD} {u U : State} (e : u.vm = U.vm) (h : fx_KK D u) : fx_KK D U := ⟨h.1.moved (e ▸ Vm.Alike.refl u.vm), va_AO.moved (e ▸ Vm.Alike.refl u.vm) h.2.1, fun q hq => va_Nw.same rfl e (h.2.2 q hq)⟩
def CX (X : Cx) (b0 : Nat) (D : DD) (cc : ByteArray) (own : String) (nL : Nat) (ret : Option FieldType) (l : Launch) (rk mc ms : Nat) : Prop :=
  (xp X).tables.exec = Jvm.exec ∧ (xc X).code = cc ∧ (xc X).maxLocals = nL ∧ (xs X).vm.findClass own = some (xm X).cls ∧ (∀ w ∈ zG, w.before (xa X) (xs X) = true) ∧ fx_KK D (xs X) ∧ b0 ≤ (xs X).heap.size ∧ (xt X).locks = false ∧ (xt X).sig.returnType = ret ∧ xl X = l ∧ rk ≤ (xR X).frames ∧ 40 * rk ≤ (xR X).locals ∧ mc ≤ (xR X).cells ∧ ms ≤ (xR X).slots
section CXs
variable {X : Cx} {b0 : Nat} {D : DD} {cc : ByteArray} {own : String} {nL : Nat} {ret : Option FieldType} {l : Launch} {rk mcR msR : Nat}
theorem cx_x (h : CX X b0 D cc own nL ret l rk mcR msR) : (xp X).tables.exec = Jvm.exec := h.1
theorem cx_b (h : CX X b0 D cc own nL ret l rk mcR msR) : (xc X).code = cc := h.2.1
theorem cx_ml (h : CX X b0 D cc own nL ret l rk mcR msR) : (xc X).maxLocals = nL := h.2.2.1
theorem cx_o (h : CX X b0 D cc own nL ret l rk mcR msR) : (xs X).vm.findClass own = some (xm X).cls := h.2.2.2.1
theorem cx_t (h : CX X b0 D cc own nL ret l rk mcR msR) : ∀ w ∈ zG, w.before (xa X) (xs X) = true := h.2.2.2.2.1
theorem cx_kk (h : CX X b0 D cc own nL ret l rk mcR msR) : fx_KK D (xs X) := h.2.2.2.2.2.1
theorem cx_k (h : CX X b0 D cc own nL ret l rk mcR msR) : va_K D.1 vwCl (fx_tys D) (xs X) := h.2.2.2.2.2.1.1
theorem cx_0 (h : CX X b0 D cc own nL ret l rk mcR msR) : b0 ≤ (xs X).heap.size := h.2.2.2.2.2.2.1
theorem cx_lk (h : CX X b0 D cc own nL ret l rk mcR msR) : (xt X).locks = false := h.2.2.2.2.2.2.2.1
theorem cx_rt (h : CX X b0 D cc own nL ret l rk mcR msR) : (xt X).sig.returnType = ret := h.2.2.2.2.2.2.2.2.1
theorem cx_l (h : CX X b0 D cc own nL ret l rk mcR msR) : xl X = l := h.2.2.2.2.2.2.2.2.2.1
theorem cx_R (h : CX X b0 D cc own nL ret l rk mcR msR) : rk ≤ (xR X).frames ∧ 40 * rk ≤ (xR X).locals ∧ mcR ≤ (xR X).cells ∧ msR ≤ (xR X).slots := h.2.2.2.2.2.2.2.2.2.2
end CXs
theorem fx_S1 {v : AV} {st : List AV} (h : fx_okS (v :: st)) : fx_ok v := h v List.mem_cons_self
theorem fx_St {v : AV} {st : List AV} (h : fx_okS (v :: st)) : fx_okS st := fun w hw => h w (List.mem_cons_of_mem _ hw)
theorem fx_Sc {v : AV} {st : List AV} (hv : fx_ok v) (h : fx_okS st) : fx_okS (v :: st) := fun w hw => by
  rcases List.mem_cons.mp hw with rfl | hw
  · exact hv
  · exact h w hw
theorem fx_La {la : List (Option AV)} {i : Nat} {v : AV} (h : fx_okL la) (hi : la[i]? = some (some v)) : fx_ok v := h v (List.mem_of_getElem? hi)
theorem fx_Ls {la : List (Option AV)} {i : Nat} {v : AV} (h : fx_okL la) (hv : fx_ok v) : fx_okL (la.set i (some v)) := fun w hw => by
  rcases List.mem_or_eq_of_mem_set hw with h1 | h1
  · exact h w h1
  · cases h1; exact hv
theorem fx_rs {b0 : Nat} {c : Int} (h : 0 ≤ c) : fx_rf b0 c = some (b0 + c.toNat) := by unfold fx_rf; rw [if_neg (by omega)]
theorem fx_rn {b0 : Nat} {c : Int} (h : c < 0) : fx_rf b0 c = none := by unfold fx_rf; rw [if_pos h]
theorem fx_cr {b0 : Nat} {c : Int} (h : 0 ≤ c) : fx_co b0 (.inr c) = .ref (b0 + c.toNat) := by show va_rf (fx_rf b0 c) = _; rw [fx_rs h]; rfl
theorem fx_cn {b0 : Nat} {c : Int} (h : c < 0) : fx_co b0 (.inr c) = .null := by show va_rf (fx_rf b0 c) = _; rw [fx_rn h]; rfl
theorem fx_lenL {b0 : Nat} {ls : Array Slot} {la : List (Option AV)} (h : fx_L b0 ls la) : ls.size = la.length := h.1
section ROWS
variable {X : Cx} {b0 : Nat} {D : DD} {g : Bool} {kc ks : Nat} {Q : State → Prop} {n : Nat} {M : Mem} {pc : Nat} {la : List (Option AV)} {st : List AV} {cc : ByteArray} {own : String} {nL : Nat} {ret : Option FieldType} {l : Launch} {rk mcR msR : Nat}
theorem A_rng (k : fx_okS st → fx_okL la → fx_okM g M → AW X b0 D g kc ks Q n M pc la st) : AW X b0 D g kc ks Q n M pc la st := fun h1 h2 h3 => k h1 h2 h3 h1 h2 h3
theorem A_wide {kc' ks' : Nat} (h1 : kc ≤ kc') (h2 : ks ≤ ks') (k : AW X b0 D g kc' ks' Q n M pc la st) : AW X b0 D g kc ks Q n M pc la st := fun a b c H locs ls d e f => W.widen h1 h2 (k a b c H locs ls d e f)
theorem A_iconst {v : Int} (hC : CX X b0 D cc own nL ret l rk mcR msR) (hd : decode cc pc = .ok (.iconst v, 1)) (hv : rg v) (k : AW X b0 D g kc ks Q n M (pc + 1) la (.inl v :: st)) : AW X b0 D g kc ks Q n M pc la st := by
  intro hs hl hm H locs ls hW hS hL
  exact lv_iconst (cx_x hC) (cx_b hC) hd rfl (k (fx_Sc hv hs) hl hm H locs ls hW hS hL)
theorem A_bipush {v : Int} (hC : CX X b0 D cc own nL ret l rk mcR msR) (hd : decode cc pc = .ok (.bipush v, 2)) (hv : rg v) (he : (Int8.ofInt v).toInt32 = Int32.ofInt v) (k : AW X b0 D g kc ks Q n M (pc + 2) la (.inl v :: st)) : AW X b0 D g kc ks Q n M pc la st := by
  intro hs hl hm H locs ls hW hS hL
  exact lv_bipush (cx_x hC) (cx_b hC) hd he (k (fx_Sc hv hs) hl hm H locs ls hW hS hL)
theorem A_sipush {v : Int} (hC : CX X b0 D cc own nL ret l rk mcR msR) (hd : decode cc pc = .ok (.sipush v, 3)) (hv : rg v) (he : (Int16.ofInt v).toInt32 = Int32.ofInt v) (k : AW X b0 D g kc ks Q n M (pc + 3) la (.inl v :: st)) : AW X b0 D g kc ks Q n M pc la st := by
  intro hs hl hm H locs ls hW hS hL
  exact lv_sipush (cx_x hC) (cx_b hC) hd he (k (fx_Sc hv hs) hl hm H locs ls hW hS hL)
theorem A_null (hC : CX X b0 D cc own nL ret l rk mcR msR) (hd : decode cc pc = .ok (.aconst_null, 1)) (k : AW X b0 D g kc ks Q n M (pc + 1) la (.inr (-1) :: st)) : AW X b0 D g kc ks Q n M pc la st := by
  intro hs hl hm H locs ls hW hS hL
  exact lv_null (cx_x hC) (cx_b hC) hd (k (fx_Sc (by decide) hs) hl hm H locs ls hW hS hL)
theorem A_iload_n {i : Nat} {k4 : Fin 4} {x : Int} (hC : CX X b0 D cc own nL ret l rk mcR msR) (hd : decode cc pc = .ok (.iload_n k4, 1)) (hk : (k4 : Nat) = i) (hi : la[i]? = some (some (.inl x))) (k : AW X b0 D g kc ks Q n M (pc + 1) la (.inl x :: st)) : AW X b0 D g kc ks Q n M pc la st := by
  intro hs hl hm H locs ls hW hS hL
  exact lv_iload_n (cx_x hC) (cx_b hC) hd hk (hL.2.2 i _ hi) (k (fx_Sc (fx_La hl hi) hs) hl hm H locs ls hW hS hL)
theorem A_iload {i : Nat} {x : Int} (hC : CX X b0 D cc own nL ret l rk mcR msR) (hd : decode cc pc = .ok (.iload i, 2)) (hi : la[i]? = some (some (.inl x))) (k : AW X b0 D g kc ks Q n M (pc + 2) la (.inl x :: st)) : AW X b0 D g kc ks Q n M pc la st := by
  intro hs hl hm H locs ls hW hS hL
  exact lv_iload (cx_x hC) (cx_b hC) hd (hL.2.2 i _ hi) (k (fx_Sc (fx_La hl hi) hs) hl hm H locs ls hW hS hL)
theorem A_aload_n {i : Nat} {k4 : Fin 4} {x : Int} (hC : CX X b0 D cc own nL ret l rk mcR msR) (hd : decode cc pc = .ok (.aload_n k4, 1)) (hk : (k4 : Nat) = i) (hi : la[i]? = some (some (.inr x))) (k : AW X b0 D g kc ks Q n M (pc + 1) la (.inr x :: st)) : AW X b0 D g kc ks Q n M pc la st := by
  intro hs hl hm H locs ls hW hS hL
  have e := hL.2.2 i _ hi
  have kk := k (fx_Sc (fx_La hl hi) hs) hl hm H locs ls hW hS hL
  rw [List.map_cons] at kk
  by_cases h0 : 0 ≤ x
  · rw [fx_cr h0] at e kk
    exact lv_aload_n (cx_x hC) (cx_b hC) hd hk e kk
  · rw [fx_cn (by omega)] at e kk
    exact lv_aload_nN (cx_x hC) (cx_b hC) hd hk e kk
theorem A_aload {i : Nat} {x : Int} (hC : CX X b0 D cc own nL ret l rk mcR msR) (hd : decode cc pc = .ok (.aload i, 2)) (hi : la[i]? = some (some (.inr x))) (k : AW X b0 D g kc ks Q n M (pc + 2) la (.inr x :: st)) : AW X b0 D g kc ks Q n M pc la st := by
  intro hs hl hm H locs ls hW hS hL
  have e := hL.2.2 i _ hi
  have kk := k (fx_Sc (fx_La hl hi) hs) hl hm H locs ls hW hS hL
  rw [List.map_cons] at kk
  by_cases h0 : 0 ≤ x
  · rw [fx_cr h0] at e kk
    exact lv_aload (cx_x hC) (cx_b hC) hd e kk
  · rw [fx_cn (by omega)] at e kk
    exact lv_aloadN (cx_x hC) (cx_b hC) hd e kk
theorem A_istore_n {i : Nat} {k4 : Fin 4} {x : Int} {la' : List (Option AV)} (hC : CX X b0 D cc own nL ret l rk mcR msR) (hd : decode cc pc = .ok (.istore_n k4, 1)) (hk : (k4 : Nat) = i) (hi : i < la.length) (hla : la.set i (some (.inl x)) = la') (k : AW X b0 D g kc ks Q n M (pc + 1) la' st) : AW X b0 D g kc ks Q n M pc la (.inl x :: st) := by
  intro hs hl hm H locs ls hW hS hL
  subst hla
  exact lv_istore_n (cx_x hC) (cx_b hC) hd hk (fx_L_has hL) hi rfl (fun ls' hl' => k (fx_St hs) (fx_Ls hl (fx_S1 hs)) hm H locs ls' hW hS (fx_L_set (v := .inl x) hi hl'))
theorem A_istore {i : Nat} {x : Int} {la' : List (Option AV)} (hC : CX X b0 D cc own nL ret l rk mcR msR) (hd : decode cc pc = .ok (.istore i, 2)) (hi : i < la.length) (hla : la.set i (some (.inl x)) = la') (k : AW X b0 D g kc ks Q n M (pc + 2) la' st) : AW X b0 D g kc ks Q n M pc la (.inl x :: st) := by
  intro hs hl hm H locs ls hW hS hL
  subst hla
  exact lv_istore (cx_x hC) (cx_b hC) hd (fx_L_has hL) hi rfl (fun ls' hl' => k (fx_St hs) (fx_Ls hl (fx_S1 hs)) hm H locs ls' hW hS (fx_L_set (v := .inl x) hi hl'))
theorem A_astore_n {i : Nat} {k4 : Fin 4} {x : Int} {la' : List (Option AV)} (hC : CX X b0 D cc own nL ret l rk mcR msR) (hd : decode cc pc = .ok (.astore_n k4, 1)) (hk : (k4 : Nat) = i) (hi : i < la.length) (hla : la.set i (some (.inr x)) = la') (k : AW X b0 D g kc ks Q n M (pc + 1) la' st) : AW X b0 D g kc ks Q n M pc la (.inr x :: st) := by
  intro hs hl hm H locs ls hW hS hL
  subst hla
  have kk : ∀ ls' : Array Slot, lv_has ls' la.length ((i, fx_co b0 (.inr x)) :: (fx_ll b0 0 la).filter (fun q => !(q.1 == i) && !(q.1 + 1 == i && q.2.category == 2))) → WX X H locs kc ks Q (F0 (xm X) (pc + 1) ls' (st.map (fx_co b0))) := fun ls' hl' => k (fx_St hs) (fx_Ls hl (fx_S1 hs)) hm H locs ls' hW hS (fx_L_set (v := .inr x) hi hl')
  rw [List.map_cons]
  by_cases h0 : 0 ≤ x
  · rw [fx_cr h0] at kk ⊢
    exact lv_astore_n (cx_x hC) (cx_b hC) hd hk (fx_L_has hL) hi rfl kk
  · rw [fx_cn (by omega)] at kk ⊢
    exact lv_astore_nN (cx_x hC) (cx_b hC) hd hk (fx_L_has hL) hi rfl kk
theorem A_astore {i : Nat} {x : Int} {la' : List (Option AV)} (hC : CX X b0 D cc own nL ret l rk mcR msR) (hd : decode cc pc = .ok (.astore i, 2)) (hi : i < la.length) (hla : la.set i (some (.inr x)) = la') (k : AW X b0 D g kc ks Q n M (pc + 2) la' st) : AW X b0 D g kc ks Q n M pc la (.inr x :: st) := by
  intro hs hl hm H locs ls hW hS hL
  subst hla
  have kk : ∀ ls' : Array Slot, lv_has ls' la.length ((i, fx_co b0 (.inr x)) :: (fx_ll b0 0 la).filter (fun q => !(q.1 == i) && !(q.1 + 1 == i && q.2.category == 2))) → WX X H locs kc ks Q (F0 (xm X) (pc + 2) ls' (st.map (fx_co b0))) := fun ls' hl' => k (fx_St hs) (fx_Ls hl (fx_S1 hs)) hm H locs ls' hW hS (fx_L_set (v := .inr x) hi hl')
  rw [List.map_cons]
  by_cases h0 : 0 ≤ x
  · rw [fx_cr h0] at kk ⊢
    exact lv_astore (cx_x hC) (cx_b hC) hd (fx_L_has hL) hi rfl kk
  · rw [fx_cn (by omega)] at kk ⊢
    exact lv_astoreN (cx_x hC) (cx_b hC) hd (fx_L_has hL) hi rfl kk
theorem A_ild0 {lt : List (Option AV)} {x : Int} (hC : CX X b0 D cc own nL ret l rk mcR msR) (hd : decode cc pc = .ok (.iload_n 0, 1)) (k : AW X b0 D g kc ks Q n M (pc + 1) (some (.inl x) :: lt) (.inl x :: st)) : AW X b0 D g kc ks Q n M pc (some (.inl x) :: lt) st := A_iload_n (i := 0) hC hd rfl rfl k
theorem A_ist0 {a0 : Option AV} {lt : List (Option AV)} {x : Int} (hC : CX X b0 D cc own nL ret l rk mcR msR) (hd : decode cc pc = .ok (.istore_n 0, 1)) (k : AW X b0 D g kc ks Q n M (pc + 1) (some (.inl x) :: lt) st) : AW X b0 D g kc ks Q n M pc (a0 :: lt) (.inl x :: st) := A_istore_n (i := 0) hC hd rfl (by simp only [List.length_cons]; omega) rfl k
theorem A_ald0 {lt : List (Option AV)} {x : Int} (hC : CX X b0 D cc own nL ret l rk mcR msR) (hd : decode cc pc = .ok (.aload_n 0, 1)) (k : AW X b0 D g kc ks Q n M (pc + 1) (some (.inr x) :: lt) (.inr x :: st)) : AW X b0 D g kc ks Q n M pc (some (.inr x) :: lt) st := A_aload_n (i := 0) hC hd rfl rfl k
theorem A_ast0 {a0 : Option AV} {lt : List (Option AV)} {x : Int} (hC : CX X b0 D cc own nL ret l rk mcR msR) (hd : decode cc pc = .ok (.astore_n 0, 1)) (k : AW X b0 D g kc ks Q n M (pc + 1) (some (.inr x) :: lt) st) : AW X b0 D g kc ks Q n M pc (a0 :: lt) (.inr x :: st) := A_astore_n (i := 0) hC hd rfl (by simp only [List.length_cons]; omega) rfl k
theorem A_iinc0 {lt : List (Option AV)} {x v : Int} (hC : CX X b0 D cc own nL ret l rk mcR msR) (hd : decode cc pc = .ok (.iinc 0 v, 3)) (hr : rg (x + v)) (k : AW X b0 D g kc ks Q n M (pc + 3) (some (.inl (x + v)) :: lt) st) : AW X b0 D g kc ks Q n M pc (some (.inl x) :: lt) st := by
  intro hs hl hm H locs ls hW hS hL
  obtain ⟨j, hj⟩ := List.getElem?_of_mem ((fx_ll_mem (b0 := b0) (some (.inl x) :: lt) 0 (0, fx_co b0 (.inl x))).mpr ⟨0, .inl x, rfl, rfl⟩)
  exact lv_iinc (k := j) (x := Int32.ofInt x) (v := Int32.ofInt (x + v)) (cx_x hC) (cx_b hC) hd (fx_L_has hL) hj (by rw [Int32.ofInt_add]) (by simp only [List.length_cons]; omega) rfl (fun ls' hl' => k hs (fx_Ls (i := 0) (v := .inl (x + v)) hl hr) hm H locs ls' hW hS (fx_L_set (i := 0) (v := .inl (x + v)) (by simp only [List.length_cons]; omega) hl'))
theorem A_ild1 {a0 : Option AV} {lt : List (Option AV)} {x : Int} (hC : CX X b0 D cc own nL ret l rk mcR msR) (hd : decode cc pc = .ok (.iload_n 1, 1)) (k : AW X b0 D g kc ks Q n M (pc + 1) (a0 :: some (.inl x) :: lt) (.inl x :: st)) : AW X b0 D g kc ks Q n M pc (a0 :: some (.inl x) :: lt) st := A_iload_n (i := 1) hC hd rfl rfl k
theorem A_ist1 {a0 a1 : Option AV} {lt : List (Option AV)} {x : Int} (hC : CX X b0 D cc own nL ret l rk mcR msR) (hd : decode cc pc = .ok (.istore_n 1, 1)) (k : AW X b0 D g kc ks Q n M (pc + 1) (a0 :: some (.inl x) :: lt) st) : AW X b0 D g kc ks Q n M pc (a0 :: a1 :: lt) (.inl x :: st) := A_istore_n (i := 1) hC hd rfl (by simp only [List.length_cons]; omega) rfl k
theorem A_ald1 {a0 : Option AV} {lt : List (Option AV)} {x : Int} (hC : CX X b0 D cc own nL ret l rk mcR msR) (hd : decode cc pc = .ok (.aload_n 1, 1)) (k : AW X b0 D g kc ks Q n M (pc + 1) (a0 :: some (.inr x) :: lt) (.inr x :: st)) : AW X b0 D g kc ks Q n M pc (a0 :: some (.inr x) :: lt) st := A_aload_n (i := 1) hC hd rfl rfl k
theorem A_ast1 {a0 a1 : Option AV} {lt : List (Option AV)} {x : Int} (hC : CX X b0 D cc own nL ret l rk mcR msR) (hd : decode cc pc = .ok (.astore_n 1, 1)) (k : AW X b0 D g kc ks Q n M (pc + 1) (a0 :: some (.inr x) :: lt) st) : AW X b0 D g kc ks Q n M pc (a0 :: a1 :: lt) (.inr x :: st) := A_astore_n (i := 1) hC hd rfl (by simp only [List.length_cons]; omega) rfl k
theorem A_iinc1 {a0 : Option AV} {lt : List (Option AV)} {x v : Int} (hC : CX X b0 D cc own nL ret l rk mcR msR) (hd : decode cc pc = .ok (.iinc 1 v, 3)) (hr : rg (x + v)) (k : AW X b0 D g kc ks Q n M (pc + 3) (a0 :: some (.inl (x + v)) :: lt) st) : AW X b0 D g kc ks Q n M pc (a0 :: some (.inl x) :: lt) st := by
  intro hs hl hm H locs ls hW hS hL
  obtain ⟨j, hj⟩ := List.getElem?_of_mem ((fx_ll_mem (b0 := b0) (a0 :: some (.inl x) :: lt) 0 (1, fx_co b0 (.inl x))).mpr ⟨1, .inl x, rfl, rfl⟩)
  exact lv_iinc (k := j) (x := Int32.ofInt x) (v := Int32.ofInt (x + v)) (cx_x hC) (cx_b hC) hd (fx_L_has hL) hj (by rw [Int32.ofInt_add]) (by simp only [List.length_cons]; omega) rfl (fun ls' hl' => k hs (fx_Ls (i := 1) (v := .inl (x + v)) hl hr) hm H locs ls' hW hS (fx_L_set (i := 1) (v := .inl (x + v)) (by simp only [List.length_cons]; omega) hl'))
theorem A_ild2 {a0 a1 : Option AV} {lt : List (Option AV)} {x : Int} (hC : CX X b0 D cc own nL ret l rk mcR msR) (hd : decode cc pc = .ok (.iload_n 2, 1)) (k : AW X b0 D g kc ks Q n M (pc + 1) (a0 :: a1 :: some (.inl x) :: lt) (.inl x :: st)) : AW X b0 D g kc ks Q n M pc (a0 :: a1 :: some (.inl x) :: lt) st := A_iload_n (i := 2) hC hd rfl rfl k
theorem A_ist2 {a0 a1 a2 : Option AV} {lt : List (Option AV)} {x : Int} (hC : CX X b0 D cc own nL ret l rk mcR msR) (hd : decode cc pc = .ok (.istore_n 2, 1)) (k : AW X b0 D g kc ks Q n M (pc + 1) (a0 :: a1 :: some (.inl x) :: lt) st) : AW X b0 D g kc ks Q n M pc (a0 :: a1 :: a2 :: lt) (.inl x :: st) := A_istore_n (i := 2) hC hd rfl (by simp only [List.length_cons]; omega) rfl k
theorem A_ald2 {a0 a1 : Option AV} {lt : List (Option AV)} {x : Int} (hC : CX X b0 D cc own nL ret l rk mcR msR) (hd : decode cc pc = .ok (.aload_n 2, 1)) (k : AW X b0 D g kc ks Q n M (pc + 1) (a0 :: a1 :: some (.inr x) :: lt) (.inr x :: st)) : AW X b0 D g kc ks Q n M pc (a0 :: a1 :: some (.inr x) :: lt) st := A_aload_n (i := 2) hC hd rfl rfl k
theorem A_ast2 {a0 a1 a2 : Option AV} {lt : List (Option AV)} {x : Int} (hC : CX X b0 D cc own nL ret l rk mcR msR) (hd : decode cc pc = .ok (.astore_n 2, 1)) (k : AW X b0 D g kc ks Q n M (pc + 1) (a0 :: a1 :: some (.inr x) :: lt) st) : AW X b0 D g kc ks Q n M pc (a0 :: a1 :: a2 :: lt) (.inr x :: st) := A_astore_n (i := 2) hC hd rfl (by simp only [List.length_cons]; omega) rfl k
theorem A_iinc2 {a0 a1 : Option AV} {lt : List (Option AV)} {x v : Int} (hC : CX X b0 D cc own nL ret l rk mcR msR) (hd : decode cc pc = .ok (.iinc 2 v, 3)) (hr : rg (x + v)) (k : AW X b0 D g kc ks Q n M (pc + 3) (a0 :: a1 :: some (.inl (x + v)) :: lt) st) : AW X b0 D g kc ks Q n M pc (a0 :: a1 :: some (.inl x) :: lt) st := by
  intro hs hl hm H locs ls hW hS hL
  obtain ⟨j, hj⟩ := List.getElem?_of_mem ((fx_ll_mem (b0 := b0) (a0 :: a1 :: some (.inl x) :: lt) 0 (2, fx_co b0 (.inl x))).mpr ⟨2, .inl x, rfl, rfl⟩)
  exact lv_iinc (k := j) (x := Int32.ofInt x) (v := Int32.ofInt (x + v)) (cx_x hC) (cx_b hC) hd (fx_L_has hL) hj (by rw [Int32.ofInt_add]) (by simp only [List.length_cons]; omega) rfl (fun ls' hl' => k hs (fx_Ls (i := 2) (v := .inl (x + v)) hl hr) hm H locs ls' hW hS (fx_L_set (i := 2) (v := .inl (x + v)) (by simp only [List.length_cons]; omega) hl'))
theorem A_ild3 {a0 a1 a2 : Option AV} {lt : List (Option AV)} {x : Int} (hC : CX X b0 D cc own nL ret l rk mcR msR) (hd : decode cc pc = .ok (.iload_n 3, 1)) (k : AW X b0 D g kc ks Q n M (pc + 1) (a0 :: a1 :: a2 :: some (.inl x) :: lt) (.inl x :: st)) : AW X b0 D g kc ks Q n M pc (a0 :: a1 :: a2 :: some (.inl x) :: lt) st := A_iload_n (i := 3) hC hd rfl rfl k
theorem A_ist3 {a0 a1 a2 a3 : Option AV} {lt : List (Option AV)} {x : Int} (hC : CX X b0 D cc own nL ret l rk mcR msR) (hd : decode cc pc = .ok (.istore_n 3, 1)) (k : AW X b0 D g kc ks Q n M (pc + 1) (a0 :: a1 :: a2 :: some (.inl x) :: lt) st) : AW X b0 D g kc ks Q n M pc (a0 :: a1 :: a2 :: a3 :: lt) (.inl x :: st) := A_istore_n (i := 3) hC hd rfl (by simp only [List.length_cons]; omega) rfl k
theorem A_ald3 {a0 a1 a2 : Option AV} {lt : List (Option AV)} {x : Int} (hC : CX X b0 D cc own nL ret l rk mcR msR) (hd : decode cc pc = .ok (.aload_n 3, 1)) (k : AW X b0 D g kc ks Q n M (pc + 1) (a0 :: a1 :: a2 :: some (.inr x) :: lt) (.inr x :: st)) : AW X b0 D g kc ks Q n M pc (a0 :: a1 :: a2 :: some (.inr x) :: lt) st := A_aload_n (i := 3) hC hd rfl rfl k
theorem A_ast3 {a0 a1 a2 a3 : Option AV} {lt : List (Option AV)} {x : Int} (hC : CX X b0 D cc own nL ret l rk mcR msR) (hd : decode cc pc = .ok (.astore_n 3, 1)) (k : AW X b0 D g kc ks Q n M (pc + 1) (a0 :: a1 :: a2 :: some (.inr x) :: lt) st) : AW X b0 D g kc ks Q n M pc (a0 :: a1 :: a2 :: a3 :: lt) (.inr x :: st) := A_astore_n (i := 3) hC hd rfl (by simp only [List.length_cons]; omega) rfl k
theorem A_iinc3 {a0 a1 a2 : Option AV} {lt : List (Option AV)} {x v : Int} (hC : CX X b0 D cc own nL ret l rk mcR msR) (hd : decode cc pc = .ok (.iinc 3 v, 3)) (hr : rg (x + v)) (k : AW X b0 D g kc ks Q n M (pc + 3) (a0 :: a1 :: a2 :: some (.inl (x + v)) :: lt) st) : AW X b0 D g kc ks Q n M pc (a0 :: a1 :: a2 :: some (.inl x) :: lt) st := by
  intro hs hl hm H locs ls hW hS hL
  obtain ⟨j, hj⟩ := List.getElem?_of_mem ((fx_ll_mem (b0 := b0) (a0 :: a1 :: a2 :: some (.inl x) :: lt) 0 (3, fx_co b0 (.inl x))).mpr ⟨3, .inl x, rfl, rfl⟩)
  exact lv_iinc (k := j) (x := Int32.ofInt x) (v := Int32.ofInt (x + v)) (cx_x hC) (cx_b hC) hd (fx_L_has hL) hj (by rw [Int32.ofInt_add]) (by simp only [List.length_cons]; omega) rfl (fun ls' hl' => k hs (fx_Ls (i := 3) (v := .inl (x + v)) hl hr) hm H locs ls' hW hS (fx_L_set (i := 3) (v := .inl (x + v)) (by simp only [List.length_cons]; omega) hl'))
theorem A_ild4 {a0 a1 a2 a3 : Option AV} {lt : List (Option AV)} {x : Int} (hC : CX X b0 D cc own nL ret l rk mcR msR) (hd : decode cc pc = .ok (.iload 4, 2)) (k : AW X b0 D g kc ks Q n M (pc + 2) (a0 :: a1 :: a2 :: a3 :: some (.inl x) :: lt) (.inl x :: st)) : AW X b0 D g kc ks Q n M pc (a0 :: a1 :: a2 :: a3 :: some (.inl x) :: lt) st := A_iload (i := 4) hC hd rfl k
theorem A_ist4 {a0 a1 a2 a3 a4 : Option AV} {lt : List (Option AV)} {x : Int} (hC : CX X b0 D cc own nL ret l rk mcR msR) (hd : decode cc pc = .ok (.istore 4, 2)) (k : AW X b0 D g kc ks Q n M (pc + 2) (a0 :: a1 :: a2 :: a3 :: some (.inl x) :: lt) st) : AW X b0 D g kc ks Q n M pc (a0 :: a1 :: a2 :: a3 :: a4 :: lt) (.inl x :: st) := A_istore (i := 4) hC hd (by simp only [List.length_cons]; omega) rfl k
theorem A_ald4 {a0 a1 a2 a3 : Option AV} {lt : List (Option AV)} {x : Int} (hC : CX X b0 D cc own nL ret l rk mcR msR) (hd : decode cc pc = .ok (.aload 4, 2)) (k : AW X b0 D g kc ks Q n M (pc + 2) (a0 :: a1 :: a2 :: a3 :: some (.inr x) :: lt) (.inr x :: st)) : AW X b0 D g kc ks Q n M pc (a0 :: a1 :: a2 :: a3 :: some (.inr x) :: lt) st := A_aload (i := 4) hC hd rfl k
theorem A_ast4 {a0 a1 a2 a3 a4 : Option AV} {lt : List (Option AV)} {x : Int} (hC : CX X b0 D cc own nL ret l rk mcR msR) (hd : decode cc pc = .ok (.astore 4, 2)) (k : AW X b0 D g kc ks Q n M (pc + 2) (a0 :: a1 :: a2 :: a3 :: some (.inr x) :: lt) st) : AW X b0 D g kc ks Q n M pc (a0 :: a1 :: a2 :: a3 :: a4 :: lt) (.inr x :: st) := A_astore (i := 4) hC hd (by simp only [List.length_cons]; omega) rfl k
theorem A_iinc4 {a0 a1 a2 a3 : Option AV} {lt : List (Option AV)} {x v : Int} (hC : CX X b0 D cc own nL ret l rk mcR msR) (hd : decode cc pc = .ok (.iinc 4 v, 3)) (hr : rg (x + v)) (k : AW X b0 D g kc ks Q n M (pc + 3) (a0 :: a1 :: a2 :: a3 :: some (.inl (x + v)) :: lt) st) : AW X b0 D g kc ks Q n M pc (a0 :: a1 :: a2 :: a3 :: some (.inl x) :: lt) st := by
  intro hs hl hm H locs ls hW hS hL
  obtain ⟨j, hj⟩ := List.getElem?_of_mem ((fx_ll_mem (b0 := b0) (a0 :: a1 :: a2 :: a3 :: some (.inl x) :: lt) 0 (4, fx_co b0 (.inl x))).mpr ⟨4, .inl x, rfl, rfl⟩)
  exact lv_iinc (k := j) (x := Int32.ofInt x) (v := Int32.ofInt (x + v)) (cx_x hC) (cx_b hC) hd (fx_L_has hL) hj (by rw [Int32.ofInt_add]) (by simp only [List.length_cons]; omega) rfl (fun ls' hl' => k hs (fx_Ls (i := 4) (v := .inl (x + v)) hl hr) hm H locs ls' hW hS (fx_L_set (i := 4) (v := .inl (x + v)) (by simp only [List.length_cons]; omega) hl'))
theorem A_ild5 {a0 a1 a2 a3 a4 : Option AV} {lt : List (Option AV)} {x : Int} (hC : CX X b0 D cc own nL ret l rk mcR msR) (hd : decode cc pc = .ok (.iload 5, 2)) (k : AW X b0 D g kc ks Q n M (pc + 2) (a0 :: a1 :: a2 :: a3 :: a4 :: some (.inl x) :: lt) (.inl x :: st)) : AW X b0 D g kc ks Q n M pc (a0 :: a1 :: a2 :: a3 :: a4 :: some (.inl x) :: lt) st := A_iload (i := 5) hC hd rfl k
theorem A_ist5 {a0 a1 a2 a3 a4 a5 : Option AV} {lt : List (Option AV)} {x : Int} (hC : CX X b0 D cc own nL ret l rk mcR msR) (hd : decode cc pc = .ok (.istore 5, 2)) (k : AW X b0 D g kc ks Q n M (pc + 2) (a0 :: a1 :: a2 :: a3 :: a4 :: some (.inl x) :: lt) st) : AW X b0 D g kc ks Q n M pc (a0 :: a1 :: a2 :: a3 :: a4 :: a5 :: lt) (.inl x :: st) := A_istore (i := 5) hC hd (by simp only [List.length_cons]; omega) rfl k
theorem A_ald5 {a0 a1 a2 a3 a4 : Option AV} {lt : List (Option AV)} {x : Int} (hC : CX X b0 D cc own nL ret l rk mcR msR) (hd : decode cc pc = .ok (.aload 5, 2)) (k : AW X b0 D g kc ks Q n M (pc + 2) (a0 :: a1 :: a2 :: a3 :: a4 :: some (.inr x) :: lt) (.inr x :: st)) : AW X b0 D g kc ks Q n M pc (a0 :: a1 :: a2 :: a3 :: a4 :: some (.inr x) :: lt) st := A_aload (i := 5) hC hd rfl k
theorem A_ast5 {a0 a1 a2 a3 a4 a5 : Option AV} {lt : List (Option AV)} {x : Int} (hC : CX X b0 D cc own nL ret l rk mcR msR) (hd : decode cc pc = .ok (.astore 5, 2)) (k : AW X b0 D g kc ks Q n M (pc + 2) (a0 :: a1 :: a2 :: a3 :: a4 :: some (.inr x) :: lt) st) : AW X b0 D g kc ks Q n M pc (a0 :: a1 :: a2 :: a3 :: a4 :: a5 :: lt) (.inr x :: st) := A_astore (i := 5) hC hd (by simp only [List.length_cons]; omega) rfl k
theorem A_iinc5 {a0 a1 a2 a3 a4 : Option AV} {lt : List (Option AV)} {x v : Int} (hC : CX X b0 D cc own nL ret l rk mcR msR) (hd : decode cc pc = .ok (.iinc 5 v, 3)) (hr : rg (x + v)) (k : AW X b0 D g kc ks Q n M (pc + 3) (a0 :: a1 :: a2 :: a3 :: a4 :: some (.inl (x + v)) :: lt) st) : AW X b0 D g kc ks Q n M pc (a0 :: a1 :: a2 :: a3 :: a4 :: some (.inl x) :: lt) st := by
  intro hs hl hm H locs ls hW hS hL
  obtain ⟨j, hj⟩ := List.getElem?_of_mem ((fx_ll_mem (b0 := b0) (a0 :: a1 :: a2 :: a3 :: a4 :: some (.inl x) :: lt) 0 (5, fx_co b0 (.inl x))).mpr ⟨5, .inl x, rfl, rfl⟩)
  exact lv_iinc (k := j) (x := Int32.ofInt x) (v := Int32.ofInt (x + v)) (cx_x hC) (cx_b hC) hd (fx_L_has hL) hj (by rw [Int32.ofInt_add]) (by simp only [List.length_cons]; omega) rfl (fun ls' hl' => k hs (fx_Ls (i := 5) (v := .inl (x + v)) hl hr) hm H locs ls' hW hS (fx_L_set (i := 5) (v := .inl (x + v)) (by simp only [List.length_cons]; omega) hl'))
theorem A_ild6 {a0 a1 a2 a3 a4 a5 : Option AV} {lt : List (Option AV)} {x : Int} (hC : CX X b0 D cc own nL ret l rk mcR msR) (hd : decode cc pc = .ok (.iload 6, 2)) (k : AW X b0 D g kc ks Q n M (pc + 2) (a0 :: a1 :: a2 :: a3 :: a4 :: a5 :: some (.inl x) :: lt) (.inl x :: st)) : AW X b0 D g kc ks Q n M pc (a0 :: a1 :: a2 :: a3 :: a4 :: a5 :: some (.inl x) :: lt) st := A_iload (i := 6) hC hd rfl k
theorem A_ist6 {a0 a1 a2 a3 a4 a5 a6 : Option AV} {lt : List (Option AV)} {x : Int} (hC : CX X b0 D cc own nL ret l rk mcR msR) (hd : decode cc pc = .ok (.istore 6, 2)) (k : AW X b0 D g kc ks Q n M (pc + 2) (a0 :: a1 :: a2 :: a3 :: a4 :: a5 :: some (.inl x) :: lt) st) : AW X b0 D g kc ks Q n M pc (a0 :: a1 :: a2 :: a3 :: a4 :: a5 :: a6 :: lt) (.inl x :: st) := A_istore (i := 6) hC hd (by simp only [List.length_cons]; omega) rfl k
theorem A_ald6 {a0 a1 a2 a3 a4 a5 : Option AV} {lt : List (Option AV)} {x : Int} (hC : CX X b0 D cc own nL ret l rk mcR msR) (hd : decode cc pc = .ok (.aload 6, 2)) (k : AW X b0 D g kc ks Q n M (pc + 2) (a0 :: a1 :: a2 :: a3 :: a4 :: a5 :: some (.inr x) :: lt) (.inr x :: st)) : AW X b0 D g kc ks Q n M pc (a0 :: a1 :: a2 :: a3 :: a4 :: a5 :: some (.inr x) :: lt) st := A_aload (i := 6) hC hd rfl k
theorem A_ast6 {a0 a1 a2 a3 a4 a5 a6 : Option AV} {lt : List (Option AV)} {x : Int} (hC : CX X b0 D cc own nL ret l rk mcR msR) (hd : decode cc pc = .ok (.astore 6, 2)) (k : AW X b0 D g kc ks Q n M (pc + 2) (a0 :: a1 :: a2 :: a3 :: a4 :: a5 :: some (.inr x) :: lt) st) : AW X b0 D g kc ks Q n M pc (a0 :: a1 :: a2 :: a3 :: a4 :: a5 :: a6 :: lt) (.inr x :: st) := A_astore (i := 6) hC hd (by simp only [List.length_cons]; omega) rfl k
theorem A_iinc6 {a0 a1 a2 a3 a4 a5 : Option AV} {lt : List (Option AV)} {x v : Int} (hC : CX X b0 D cc own nL ret l rk mcR msR) (hd : decode cc pc = .ok (.iinc 6 v, 3)) (hr : rg (x + v)) (k : AW X b0 D g kc ks Q n M (pc + 3) (a0 :: a1 :: a2 :: a3 :: a4 :: a5 :: some (.inl (x + v)) :: lt) st) : AW X b0 D g kc ks Q n M pc (a0 :: a1 :: a2 :: a3 :: a4 :: a5 :: some (.inl x) :: lt) st := by
  intro hs hl hm H locs ls hW hS hL
  obtain ⟨j, hj⟩ := List.getElem?_of_mem ((fx_ll_mem (b0 := b0) (a0 :: a1 :: a2 :: a3 :: a4 :: a5 :: some (.inl x) :: lt) 0 (6, fx_co b0 (.inl x))).mpr ⟨6, .inl x, rfl, rfl⟩)
  exact lv_iinc (k := j) (x := Int32.ofInt x) (v := Int32.ofInt (x + v)) (cx_x hC) (cx_b hC) hd (fx_L_has hL) hj (by rw [Int32.ofInt_add]) (by simp only [List.length_cons]; omega) rfl (fun ls' hl' => k hs (fx_Ls (i := 6) (v := .inl (x + v)) hl hr) hm H locs ls' hW hS (fx_L_set (i := 6) (v := .inl (x + v)) (by simp only [List.length_cons]; omega) hl'))
theorem A_ild7 {a0 a1 a2 a3 a4 a5 a6 : Option AV} {lt : List (Option AV)} {x : Int} (hC : CX X b0 D cc own nL ret l rk mcR msR) (hd : decode cc pc = .ok (.iload 7, 2)) (k : AW X b0 D g kc ks Q n M (pc + 2) (a0 :: a1 :: a2 :: a3 :: a4 :: a5 :: a6 :: some (.inl x) :: lt) (.inl x :: st)) : AW X b0 D g kc ks Q n M pc (a0 :: a1 :: a2 :: a3 :: a4 :: a5 :: a6 :: some (.inl x) :: lt) st := A_iload (i := 7) hC hd rfl k
theorem A_ist7 {a0 a1 a2 a3 a4 a5 a6 a7 : Option AV} {lt : List (Option AV)} {x : Int} (hC : CX X b0 D cc own nL ret l rk mcR msR) (hd : decode cc pc = .ok (.istore 7, 2)) (k : AW X b0 D g kc ks Q n M (pc + 2) (a0 :: a1 :: a2 :: a3 :: a4 :: a5 :: a6 :: some (.inl x) :: lt) st) : AW X b0 D g kc ks Q n M pc (a0 :: a1 :: a2 :: a3 :: a4 :: a5 :: a6 :: a7 :: lt) (.inl x :: st) := A_istore (i := 7) hC hd (by simp only [List.length_cons]; omega) rfl k
theorem A_ald7 {a0 a1 a2 a3 a4 a5 a6 : Option AV} {lt : List (Option AV)} {x : Int} (hC : CX X b0 D cc own nL ret l rk mcR msR) (hd : decode cc pc = .ok (.aload 7, 2)) (k : AW X b0 D g kc ks Q n M (pc + 2) (a0 :: a1 :: a2 :: a3 :: a4 :: a5 :: a6 :: some (.inr x) :: lt) (.inr x :: st)) : AW X b0 D g kc ks Q n M pc (a0 :: a1 :: a2 :: a3 :: a4 :: a5 :: a6 :: some (.inr x) :: lt) st := A_aload (i := 7) hC hd rfl k
theorem A_ast7 {a0 a1 a2 a3 a4 a5 a6 a7 : Option AV} {lt : List (Option AV)} {x : Int} (hC : CX X b0 D cc own nL ret l rk mcR msR) (hd : decode cc pc = .ok (.astore 7, 2)) (k : AW X b0 D g kc ks Q n M (pc + 2) (a0 :: a1 :: a2 :: a3 :: a4 :: a5 :: a6 :: some (.inr x) :: lt) st) : AW X b0 D g kc ks Q n M pc (a0 :: a1 :: a2 :: a3 :: a4 :: a5 :: a6 :: a7 :: lt) (.inr x :: st) := A_astore (i := 7) hC hd (by simp only [List.length_cons]; omega) rfl k
theorem A_iinc7 {a0 a1 a2 a3 a4 a5 a6 : Option AV} {lt : List (Option AV)} {x v : Int} (hC : CX X b0 D cc own nL ret l rk mcR msR) (hd : decode cc pc = .ok (.iinc 7 v, 3)) (hr : rg (x + v)) (k : AW X b0 D g kc ks Q n M (pc + 3) (a0 :: a1 :: a2 :: a3 :: a4 :: a5 :: a6 :: some (.inl (x + v)) :: lt) st) : AW X b0 D g kc ks Q n M pc (a0 :: a1 :: a2 :: a3 :: a4 :: a5 :: a6 :: some (.inl x) :: lt) st := by
  intro hs hl hm H locs ls hW hS hL
  obtain ⟨j, hj⟩ := List.getElem?_of_mem ((fx_ll_mem (b0 := b0) (a0 :: a1 :: a2 :: a3 :: a4 :: a5 :: a6 :: some (.inl x) :: lt) 0 (7, fx_co b0 (.inl x))).mpr ⟨7, .inl x, rfl, rfl⟩)
  exact lv_iinc (k := j) (x := Int32.ofInt x) (v := Int32.ofInt (x + v)) (cx_x hC) (cx_b hC) hd (fx_L_has hL) hj (by rw [Int32.ofInt_add]) (by simp only [List.length_cons]; omega) rfl (fun ls' hl' => k hs (fx_Ls (i := 7) (v := .inl (x + v)) hl hr) hm H locs ls' hW hS (fx_L_set (i := 7) (v := .inl (x + v)) (by simp only [List.length_cons]; omega) hl'))
theorem A_ild8 {a0 a1 a2 a3 a4 a5 a6 a7 : Option AV} {lt : List (Option AV)} {x : Int} (hC : CX X b0 D cc own nL ret l rk mcR msR) (hd : decode cc pc = .ok (.iload 8, 2)) (k : AW X b0 D g kc ks Q n M (pc + 2) (a0 :: a1 :: a2 :: a3 :: a4 :: a5 :: a6 :: a7 :: some (.inl x) :: lt) (.inl x :: st)) : AW X b0 D g kc ks Q n M pc (a0 :: a1 :: a2 :: a3 :: a4 :: a5 :: a6 :: a7 :: some (.inl x) :: lt) st := A_iload (i := 8) hC hd rfl k
theorem A_ist8 {a0 a1 a2 a3 a4 a5 a6 a7 a8 : Option AV} {lt : List (Option AV)} {x : Int} (hC : CX X b0 D cc own nL ret l rk mcR msR) (hd : decode cc pc = .ok (.istore 8, 2)) (k : AW X b0 D g kc ks Q n M (pc + 2) (a0 :: a1 :: a2 :: a3 :: a4 :: a5 :: a6 :: a7 :: some (.inl x) :: lt) st) : AW X b0 D g kc ks Q n M pc (a0 :: a1 :: a2 :: a3 :: a4 :: a5 :: a6 :: a7 :: a8 :: lt) (.inl x :: st) := A_istore (i := 8) hC hd (by simp only [List.length_cons]; omega) rfl k
theorem A_ald8 {a0 a1 a2 a3 a4 a5 a6 a7 : Option AV} {lt : List (Option AV)} {x : Int} (hC : CX X b0 D cc own nL ret l rk mcR msR) (hd : decode cc pc = .ok (.aload 8, 2)) (k : AW X b0 D g kc ks Q n M (pc + 2) (a0 :: a1 :: a2 :: a3 :: a4 :: a5 :: a6 :: a7 :: some (.inr x) :: lt) (.inr x :: st)) : AW X b0 D g kc ks Q n M pc (a0 :: a1 :: a2 :: a3 :: a4 :: a5 :: a6 :: a7 :: some (.inr x) :: lt) st := A_aload (i := 8) hC hd rfl k
theorem A_ast8 {a0 a1 a2 a3 a4 a5 a6 a7 a8 : Option AV} {lt : List (Option AV)} {x : Int} (hC : CX X b0 D cc own nL ret l rk mcR msR) (hd : decode cc pc = .ok (.astore 8, 2)) (k : AW X b0 D g kc ks Q n M (pc + 2) (a0 :: a1 :: a2 :: a3 :: a4 :: a5 :: a6 :: a7 :: some (.inr x) :: lt) st) : AW X b0 D g kc ks Q n M pc (a0 :: a1 :: a2 :: a3 :: a4 :: a5 :: a6 :: a7 :: a8 :: lt) (.inr x :: st) := A_astore (i := 8) hC hd (by simp only [List.length_cons]; omega) rfl k
theorem A_iinc8 {a0 a1 a2 a3 a4 a5 a6 a7 : Option AV} {lt : List (Option AV)} {x v : Int} (hC : CX X b0 D cc own nL ret l rk mcR msR) (hd : decode cc pc = .ok (.iinc 8 v, 3)) (hr : rg (x + v)) (k : AW X b0 D g kc ks Q n M (pc + 3) (a0 :: a1 :: a2 :: a3 :: a4 :: a5 :: a6 :: a7 :: some (.inl (x + v)) :: lt) st) : AW X b0 D g kc ks Q n M pc (a0 :: a1 :: a2 :: a3 :: a4 :: a5 :: a6 :: a7 :: some (.inl x) :: lt) st := by
  intro hs hl hm H locs ls hW hS hL
  obtain ⟨j, hj⟩ := List.getElem?_of_mem ((fx_ll_mem (b0 := b0) (a0 :: a1 :: a2 :: a3 :: a4 :: a5 :: a6 :: a7 :: some (.inl x) :: lt) 0 (8, fx_co b0 (.inl x))).mpr ⟨8, .inl x, rfl, rfl⟩)
  exact lv_iinc (k := j) (x := Int32.ofInt x) (v := Int32.ofInt (x + v)) (cx_x hC) (cx_b hC) hd (fx_L_has hL) hj (by rw [Int32.ofInt_add]) (by simp only [List.length_cons]; omega) rfl (fun ls' hl' => k hs (fx_Ls (i := 8) (v := .inl (x + v)) hl hr) hm H locs ls' hW hS (fx_L_set (i := 8) (v := .inl (x + v)) (by simp only [List.length_cons]; omega) hl'))
theorem A_ild9 {a0 a1 a2 a3 a4 a5 a6 a7 a8 : Option AV} {lt : List (Option AV)} {x : Int} (hC : CX X b0 D cc own nL ret l rk mcR msR) (hd : decode cc pc = .ok (.iload 9, 2)) (k : AW X b0 D g kc ks Q n M (pc + 2) (a0 :: a1 :: a2 :: a3 :: a4 :: a5 :: a6 :: a7 :: a8 :: some (.inl x) :: lt) (.inl x :: st)) : AW X b0 D g kc ks Q n M pc (a0 :: a1 :: a2 :: a3 :: a4 :: a5 :: a6 :: a7 :: a8 :: some (.inl x) :: lt) st := A_iload (i := 9) hC hd rfl k
theorem A_ist9 {a0 a1 a2 a3 a4 a5 a6 a7 a8 a9 : Option AV} {lt : List (Option AV)} {x : Int} (hC : CX X b0 D cc own nL ret l rk mcR msR) (hd : decode cc pc = .ok (.istore 9, 2)) (k : AW X b0 D g kc ks Q n M (pc + 2) (a0 :: a1 :: a2 :: a3 :: a4 :: a5 :: a6 :: a7 :: a8 :: some (.inl x) :: lt) st) : AW X b0 D g kc ks Q n M pc (a0 :: a1 :: a2 :: a3 :: a4 :: a5 :: a6 :: a7 :: a8 :: a9 :: lt) (.inl x :: st) := A_istore (i := 9) hC hd (by simp only [List.length_cons]; omega) rfl k
theorem A_ald9 {a0 a1 a2 a3 a4 a5 a6 a7 a8 : Option AV} {lt : List (Option AV)} {x : Int} (hC : CX X b0 D cc own nL ret l rk mcR msR) (hd : decode cc pc = .ok (.aload 9, 2)) (k : AW X b0 D g kc ks Q n M (pc + 2) (a0 :: a1 :: a2 :: a3 :: a4 :: a5 :: a6 :: a7 :: a8 :: some (.inr x) :: lt) (.inr x :: st)) : AW X b0 D g kc ks Q n M pc (a0 :: a1 :: a2 :: a3 :: a4 :: a5 :: a6 :: a7 :: a8 :: some (.inr x) :: lt) st := A_aload (i := 9) hC hd rfl k
theorem A_ast9 {a0 a1 a2 a3 a4 a5 a6 a7 a8 a9 : Option AV} {lt : List (Option AV)} {x : Int} (hC : CX X b0 D cc own nL ret l rk mcR msR) (hd : decode cc pc = .ok (.astore 9, 2)) (k : AW X b0 D g kc ks Q n M (pc + 2) (a0 :: a1 :: a2 :: a3 :: a4 :: a5 :: a6 :: a7 :: a8 :: some (.inr x) :: lt) st) : AW X b0 D g kc ks Q n M pc (a0 :: a1 :: a2 :: a3 :: a4 :: a5 :: a6 :: a7 :: a8 :: a9 :: lt) (.inr x :: st) := A_astore (i := 9) hC hd (by simp only [List.length_cons]; omega) rfl k
theorem A_iinc9 {a0 a1 a2 a3 a4 a5 a6 a7 a8 : Option AV} {lt : List (Option AV)} {x v : Int} (hC : CX X b0 D cc own nL ret l rk mcR msR) (hd : decode cc pc = .ok (.iinc 9 v, 3)) (hr : rg (x + v)) (k : AW X b0 D g kc ks Q n M (pc + 3) (a0 :: a1 :: a2 :: a3 :: a4 :: a5 :: a6 :: a7 :: a8 :: some (.inl (x + v)) :: lt) st) : AW X b0 D g kc ks Q n M pc (a0 :: a1 :: a2 :: a3 :: a4 :: a5 :: a6 :: a7 :: a8 :: some (.inl x) :: lt) st := by
  intro hs hl hm H locs ls hW hS hL
  obtain ⟨j, hj⟩ := List.getElem?_of_mem ((fx_ll_mem (b0 := b0) (a0 :: a1 :: a2 :: a3 :: a4 :: a5 :: a6 :: a7 :: a8 :: some (.inl x) :: lt) 0 (9, fx_co b0 (.inl x))).mpr ⟨9, .inl x, rfl, rfl⟩)
  exact lv_iinc (k := j) (x := Int32.ofInt x) (v := Int32.ofInt (x + v)) (cx_x hC) (cx_b hC) hd (fx_L_has hL) hj (by rw [Int32.ofInt_add]) (by simp only [List.length_cons]; omega) rfl (fun ls' hl' => k hs (fx_Ls (i := 9) (v := .inl (x + v)) hl hr) hm H locs ls' hW hS (fx_L_set (i := 9) (v := .inl (x + v)) (by simp only [List.length_cons]; omega) hl'))
theorem A_ild10 {a0 a1 a2 a3 a4 a5 a6 a7 a8 a9 : Option AV} {lt : List (Option AV)} {x : Int} (hC : CX X b0 D cc own nL ret l rk mcR msR) (hd : decode cc pc = .ok (.iload 10, 2)) (k : AW X b0 D g kc ks Q n M (pc + 2) (a0 :: a1 :: a2 :: a3 :: a4 :: a5 :: a6 :: a7 :: a8 :: a9 :: some (.inl x) :: lt) (.inl x :: st)) : AW X b0 D g kc ks Q n M pc (a0 :: a1 :: a2 :: a3 :: a4 :: a5 :: a6 :: a7 :: a8 :: a9 :: some (.inl x) :: lt) st := A_iload (i := 10) hC hd rfl k
theorem A_ist10 {a0 a1 a2 a3 a4 a5 a6 a7 a8 a9 a10 : Option AV} {lt : List (Option AV)} {x : Int} (hC : CX X b0 D cc own nL ret l rk mcR msR) (hd : decode cc pc = .ok (.istore 10, 2)) (k : AW X b0 D g kc ks Q n M (pc + 2) (a0 :: a1 :: a2 :: a3 :: a4 :: a5 :: a6 :: a7 :: a8 :: a9 :: some (.inl x) :: lt) st) : AW X b0 D g kc ks Q n M pc (a0 :: a1 :: a2 :: a3 :: a4 :: a5 :: a6 :: a7 :: a8 :: a9 :: a10 :: lt) (.inl x :: st) := A_istore (i := 10) hC hd (by simp only [List.length_cons]; omega) rfl k
theorem A_ald10 {a0 a1 a2 a3 a4 a5 a6 a7 a8 a9 : Option AV} {lt : List (Option AV)} {x : Int} (hC : CX X b0 D cc own nL ret l rk mcR msR) (hd : decode cc pc = .ok (.aload 10, 2)) (k : AW X b0 D g kc ks Q n M (pc + 2) (a0 :: a1 :: a2 :: a3 :: a4 :: a5 :: a6 :: a7 :: a8 :: a9 :: some (.inr x) :: lt) (.inr x :: st)) : AW X b0 D g kc ks Q n M pc (a0 :: a1 :: a2 :: a3 :: a4 :: a5 :: a6 :: a7 :: a8 :: a9 :: some (.inr x) :: lt) st := A_aload (i := 10) hC hd rfl k
theorem A_ast10 {a0 a1 a2 a3 a4 a5 a6 a7 a8 a9 a10 : Option AV} {lt : List (Option AV)} {x : Int} (hC : CX X b0 D cc own nL ret l rk mcR msR) (hd : decode cc pc = .ok (.astore 10, 2)) (k : AW X b0 D g kc ks Q n M (pc + 2) (a0 :: a1 :: a2 :: a3 :: a4 :: a5 :: a6 :: a7 :: a8 :: a9 :: some (.inr x) :: lt) st) : AW X b0 D g kc ks Q n M pc (a0 :: a1 :: a2 :: a3 :: a4 :: a5 :: a6 :: a7 :: a8 :: a9 :: a10 :: lt) (.inr x :: st) := A_astore (i := 10) hC hd (by simp only [List.length_cons]; omega) rfl k
theorem A_iinc10 {a0 a1 a2 a3 a4 a5 a6 a7 a8 a9 : Option AV} {lt : List (Option AV)} {x v : Int} (hC : CX X b0 D cc own nL ret l rk mcR msR) (hd : decode cc pc = .ok (.iinc 10 v, 3)) (hr : rg (x + v)) (k : AW X b0 D g kc ks Q n M (pc + 3) (a0 :: a1 :: a2 :: a3 :: a4 :: a5 :: a6 :: a7 :: a8 :: a9 :: some (.inl (x + v)) :: lt) st) : AW X b0 D g kc ks Q n M pc (a0 :: a1 :: a2 :: a3 :: a4 :: a5 :: a6 :: a7 :: a8 :: a9 :: some (.inl x) :: lt) st := by
  intro hs hl hm H locs ls hW hS hL
  obtain ⟨j, hj⟩ := List.getElem?_of_mem ((fx_ll_mem (b0 := b0) (a0 :: a1 :: a2 :: a3 :: a4 :: a5 :: a6 :: a7 :: a8 :: a9 :: some (.inl x) :: lt) 0 (10, fx_co b0 (.inl x))).mpr ⟨10, .inl x, rfl, rfl⟩)
  exact lv_iinc (k := j) (x := Int32.ofInt x) (v := Int32.ofInt (x + v)) (cx_x hC) (cx_b hC) hd (fx_L_has hL) hj (by rw [Int32.ofInt_add]) (by simp only [List.length_cons]; omega) rfl (fun ls' hl' => k hs (fx_Ls (i := 10) (v := .inl (x + v)) hl hr) hm H locs ls' hW hS (fx_L_set (i := 10) (v := .inl (x + v)) (by simp only [List.length_cons]; omega) hl'))
theorem A_ild11 {a0 a1 a2 a3 a4 a5 a6 a7 a8 a9 a10 : Option AV} {lt : List (Option AV)} {x : Int} (hC : CX X b0 D cc own nL ret l rk mcR msR) (hd : decode cc pc = .ok (.iload 11, 2)) (k : AW X b0 D g kc ks Q n M (pc + 2) (a0 :: a1 :: a2 :: a3 :: a4 :: a5 :: a6 :: a7 :: a8 :: a9 :: a10 :: some (.inl x) :: lt) (.inl x :: st)) : AW X b0 D g kc ks Q n M pc (a0 :: a1 :: a2 :: a3 :: a4 :: a5 :: a6 :: a7 :: a8 :: a9 :: a10 :: some (.inl x) :: lt) st := A_iload (i := 11) hC hd rfl k
theorem A_ist11 {a0 a1 a2 a3 a4 a5 a6 a7 a8 a9 a10 a11 : Option AV} {lt : List (Option AV)} {x : Int} (hC : CX X b0 D cc own nL ret l rk mcR msR) (hd : decode cc pc = .ok (.istore 11, 2)) (k : AW X b0 D g kc ks Q n M (pc + 2) (a0 :: a1 :: a2 :: a3 :: a4 :: a5 :: a6 :: a7 :: a8 :: a9 :: a10 :: some (.inl x) :: lt) st) : AW X b0 D g kc ks Q n M pc (a0 :: a1 :: a2 :: a3 :: a4 :: a5 :: a6 :: a7 :: a8 :: a9 :: a10 :: a11 :: lt) (.inl x :: st) := A_istore (i := 11) hC hd (by simp only [List.length_cons]; omega) rfl k
theorem A_ald11 {a0 a1 a2 a3 a4 a5 a6 a7 a8 a9 a10 : Option AV} {lt : List (Option AV)} {x : Int} (hC : CX X b0 D cc own nL ret l rk mcR msR) (hd : decode cc pc = .ok (.aload 11, 2)) (k : AW X b0 D g kc ks Q n M (pc + 2) (a0 :: a1 :: a2 :: a3 :: a4 :: a5 :: a6 :: a7 :: a8 :: a9 :: a10 :: some (.inr x) :: lt) (.inr x :: st)) : AW X b0 D g kc ks Q n M pc (a0 :: a1 :: a2 :: a3 :: a4 :: a5 :: a6 :: a7 :: a8 :: a9 :: a10 :: some (.inr x) :: lt) st := A_aload (i := 11) hC hd rfl k
theorem A_ast11 {a0 a1 a2 a3 a4 a5 a6 a7 a8 a9 a10 a11 : Option AV} {lt : List (Option AV)} {x : Int} (hC : CX X b0 D cc own nL ret l rk mcR msR) (hd : decode cc pc = .ok (.astore 11, 2)) (k : AW X b0 D g kc ks Q n M (pc + 2) (a0 :: a1 :: a2 :: a3 :: a4 :: a5 :: a6 :: a7 :: a8 :: a9 :: a10 :: some (.inr x) :: lt) st) : AW X b0 D g kc ks Q n M pc (a0 :: a1 :: a2 :: a3 :: a4 :: a5 :: a6 :: a7 :: a8 :: a9 :: a10 :: a11 :: lt) (.inr x :: st) := A_astore (i := 11) hC hd (by simp only [List.length_cons]; omega) rfl k
theorem A_iinc11 {a0 a1 a2 a3 a4 a5 a6 a7 a8 a9 a10 : Option AV} {lt : List (Option AV)} {x v : Int} (hC : CX X b0 D cc own nL ret l rk mcR msR) (hd : decode cc pc = .ok (.iinc 11 v, 3)) (hr : rg (x + v)) (k : AW X b0 D g kc ks Q n M (pc + 3) (a0 :: a1 :: a2 :: a3 :: a4 :: a5 :: a6 :: a7 :: a8 :: a9 :: a10 :: some (.inl (x + v)) :: lt) st) : AW X b0 D g kc ks Q n M pc (a0 :: a1 :: a2 :: a3 :: a4 :: a5 :: a6 :: a7 :: a8 :: a9 :: a10 :: some (.inl x) :: lt) st := by
  intro hs hl hm H locs ls hW hS hL
  obtain ⟨j, hj⟩ := List.getElem?_of_mem ((fx_ll_mem (b0 := b0) (a0 :: a1 :: a2 :: a3 :: a4 :: a5 :: a6 :: a7 :: a8 :: a9 :: a10 :: some (.inl x) :: lt) 0 (11, fx_co b0 (.inl x))).mpr ⟨11, .inl x, rfl, rfl⟩)
  exact lv_iinc (k := j) (x := Int32.ofInt x) (v := Int32.ofInt (x + v)) (cx_x hC) (cx_b hC) hd (fx_L_has hL) hj (by rw [Int32.ofInt_add]) (by simp only [List.length_cons]; omega) rfl (fun ls' hl' => k hs (fx_Ls (i := 11) (v := .inl (x + v)) hl hr) hm H locs ls' hW hS (fx_L_set (i := 11) (v := .inl (x + v)) (by simp only [List.length_cons]; omega) hl'))
theorem A_iadd {i j : Int} (hC : CX X b0 D cc own nL ret l rk mcR msR) (hd : decode cc pc = .ok (.iadd, 1)) (hr : rg (i + j)) (k : AW X b0 D g kc ks Q n M (pc + 1) la (.inl (i + j) :: st)) : AW X b0 D g kc ks Q n M pc la (.inl j :: .inl i :: st) := by
  intro hs hl hm H locs ls hW hS hL
  have kk : WX X H locs kc ks Q (F0 (xm X) (pc + 1) ls (.int (Int32.ofInt (i + j)) :: st.map (fx_co b0))) := k (fx_Sc hr (fx_St (fx_St hs))) hl hm H locs ls hW hS hL
  rw [Int32.ofInt_add] at kk
  exact lv_iadd (cx_x hC) (cx_b hC) hd kk
theorem A_isub {i j : Int} (hC : CX X b0 D cc own nL ret l rk mcR msR) (hd : decode cc pc = .ok (.isub, 1)) (hr : rg (i - j)) (k : AW X b0 D g kc ks Q n M (pc + 1) la (.inl (i - j) :: st)) : AW X b0 D g kc ks Q n M pc la (.inl j :: .inl i :: st) := by
  intro hs hl hm H locs ls hW hS hL
  have kk : WX X H locs kc ks Q (F0 (xm X) (pc + 1) ls (.int (Int32.ofInt (i - j)) :: st.map (fx_co b0))) := k (fx_Sc hr (fx_St (fx_St hs))) hl hm H locs ls hW hS hL
  rw [Int32.ofInt_sub] at kk
  exact lv_isub (cx_x hC) (cx_b hC) hd kk
theorem A_imul {i j : Int} (hC : CX X b0 D cc own nL ret l rk mcR msR) (hd : decode cc pc = .ok (.imul, 1)) (hr : rg (i * j)) (k : AW X b0 D g kc ks Q n M (pc + 1) la (.inl (i * j) :: st)) : AW X b0 D g kc ks Q n M pc la (.inl j :: .inl i :: st) := by
  intro hs hl hm H locs ls hW hS hL
  have kk : WX X H locs kc ks Q (F0 (xm X) (pc + 1) ls (.int (Int32.ofInt (i * j)) :: st.map (fx_co b0))) := k (fx_Sc hr (fx_St (fx_St hs))) hl hm H locs ls hW hS hL
  rw [Int32.ofInt_mul] at kk
  exact lv_imul (cx_x hC) (cx_b hC) hd kk
theorem A_ifeq {i off : Int} {tgt : Nat} (hC : CX X b0 D cc own nL ret l rk mcR msR) (hd : decode cc pc = .ok (.ifCond .eq off, 3)) (ht : (pc : Int) + off = (tgt : Int)) (kt : i = 0 → AW X b0 D g kc ks Q n M tgt la st) (kf : ¬ i = 0 → AW X b0 D g kc ks Q n M (pc + 3) la st) : AW X b0 D g kc ks Q n M pc la (.inl i :: st) := by
  intro hs hl hm H locs ls hW hS hL
  exact lv_if_eq (cx_x hC) (cx_b hC) hd ht (fun h => kt ((fx_eq0 (fx_S1 hs)).mp h) (fx_St hs) hl hm H locs ls hW hS hL) (fun h => kf (fun e => h ((fx_eq0 (fx_S1 hs)).mpr e)) (fx_St hs) hl hm H locs ls hW hS hL)
theorem A_ifne {i off : Int} {tgt : Nat} (hC : CX X b0 D cc own nL ret l rk mcR msR) (hd : decode cc pc = .ok (.ifCond .ne off, 3)) (ht : (pc : Int) + off = (tgt : Int)) (kt : ¬ i = 0 → AW X b0 D g kc ks Q n M tgt la st) (kf : i = 0 → AW X b0 D g kc ks Q n M (pc + 3) la st) : AW X b0 D g kc ks Q n M pc la (.inl i :: st) := by
  intro hs hl hm H locs ls hW hS hL
  exact lv_if_ne (cx_x hC) (cx_b hC) hd ht (fun h => kt (fun e => h ((fx_eq0 (fx_S1 hs)).mpr e)) (fx_St hs) hl hm H locs ls hW hS hL) (fun h => kf ((fx_eq0 (fx_S1 hs)).mp (by first | exact h | exact Classical.not_not.mp h)) (fx_St hs) hl hm H locs ls hW hS hL)
theorem A_iflt {i off : Int} {tgt : Nat} (hC : CX X b0 D cc own nL ret l rk mcR msR) (hd : decode cc pc = .ok (.ifCond .lt off, 3)) (ht : (pc : Int) + off = (tgt : Int)) (kt : i < 0 → AW X b0 D g kc ks Q n M tgt la st) (kf : ¬ i < 0 → AW X b0 D g kc ks Q n M (pc + 3) la st) : AW X b0 D g kc ks Q n M pc la (.inl i :: st) := by
  intro hs hl hm H locs ls hW hS hL
  exact lv_if_lt (cx_x hC) (cx_b hC) hd ht (fun h => kt ((fx_lt0 (fx_S1 hs)).mp h) (fx_St hs) hl hm H locs ls hW hS hL) (fun h => kf (fun e => h ((fx_lt0 (fx_S1 hs)).mpr e)) (fx_St hs) hl hm H locs ls hW hS hL)
theorem A_ifge {i off : Int} {tgt : Nat} (hC : CX X b0 D cc own nL ret l rk mcR msR) (hd : decode cc pc = .ok (.ifCond .ge off, 3)) (ht : (pc : Int) + off = (tgt : Int)) (kt : 0 ≤ i → AW X b0 D g kc ks Q n M tgt la st) (kf : ¬ 0 ≤ i → AW X b0 D g kc ks Q n M (pc + 3) la st) : AW X b0 D g kc ks Q n M pc la (.inl i :: st) := by
  intro hs hl hm H locs ls hW hS hL
  exact lv_if_ge (cx_x hC) (cx_b hC) hd ht (fun h => kt ((fx_0le (fx_S1 hs)).mp h) (fx_St hs) hl hm H locs ls hW hS hL) (fun h => kf (fun e => h ((fx_0le (fx_S1 hs)).mpr e)) (fx_St hs) hl hm H locs ls hW hS hL)
theorem A_ifgt {i off : Int} {tgt : Nat} (hC : CX X b0 D cc own nL ret l rk mcR msR) (hd : decode cc pc = .ok (.ifCond .gt off, 3)) (ht : (pc : Int) + off = (tgt : Int)) (kt : 0 < i → AW X b0 D g kc ks Q n M tgt la st) (kf : ¬ 0 < i → AW X b0 D g kc ks Q n M (pc + 3) la st) : AW X b0 D g kc ks Q n M pc la (.inl i :: st) := by
  intro hs hl hm H locs ls hW hS hL
  exact lv_if_gt (cx_x hC) (cx_b hC) hd ht (fun h => kt ((fx_0lt (fx_S1 hs)).mp h) (fx_St hs) hl hm H locs ls hW hS hL) (fun h => kf (fun e => h ((fx_0lt (fx_S1 hs)).mpr e)) (fx_St hs) hl hm H locs ls hW hS hL)
theorem A_ifle {i off : Int} {tgt : Nat} (hC : CX X b0 D cc own nL ret l rk mcR msR) (hd : decode cc pc = .ok (.ifCond .le off, 3)) (ht : (pc : Int) + off = (tgt : Int)) (kt : i ≤ 0 → AW X b0 D g kc ks Q n M tgt la st) (kf : ¬ i ≤ 0 → AW X b0 D g kc ks Q n M (pc + 3) la st) : AW X b0 D g kc ks Q n M pc la (.inl i :: st) := by
  intro hs hl hm H locs ls hW hS hL
  exact lv_if_le (cx_x hC) (cx_b hC) hd ht (fun h => kt ((fx_le0 (fx_S1 hs)).mp h) (fx_St hs) hl hm H locs ls hW hS hL) (fun h => kf (fun e => h ((fx_le0 (fx_S1 hs)).mpr e)) (fx_St hs) hl hm H locs ls hW hS hL)
theorem A_icmpeq {i j off : Int} {tgt : Nat} (hC : CX X b0 D cc own nL ret l rk mcR msR) (hd : decode cc pc = .ok (.if_icmp .eq off, 3)) (ht : (pc : Int) + off = (tgt : Int)) (kt : i = j → AW X b0 D g kc ks Q n M tgt la st) (kf : ¬ i = j → AW X b0 D g kc ks Q n M (pc + 3) la st) : AW X b0 D g kc ks Q n M pc la (.inl j :: .inl i :: st) := by
  intro hs hl hm H locs ls hW hS hL
  exact lv_icmp_eq (cx_x hC) (cx_b hC) hd ht (fun h => kt ((fx_eq (fx_S1 (fx_St hs)) (fx_S1 hs)).mp h) (fx_St (fx_St hs)) hl hm H locs ls hW hS hL) (fun h => kf (fun e => h ((fx_eq (fx_S1 (fx_St hs)) (fx_S1 hs)).mpr e)) (fx_St (fx_St hs)) hl hm H locs ls hW hS hL)
theorem A_icmplt {i j off : Int} {tgt : Nat} (hC : CX X b0 D cc own nL ret l rk mcR msR) (hd : decode cc pc = .ok (.if_icmp .lt off, 3)) (ht : (pc : Int) + off = (tgt : Int)) (kt : i < j → AW X b0 D g kc ks Q n M tgt la st) (kf : ¬ i < j → AW X b0 D g kc ks Q n M (pc + 3) la st) : AW X b0 D g kc ks Q n M pc la (.inl j :: .inl i :: st) := by
  intro hs hl hm H locs ls hW hS hL
  exact lv_icmp_lt (cx_x hC) (cx_b hC) hd ht (fun h => kt ((fx_lt (fx_S1 (fx_St hs)) (fx_S1 hs)).mp h) (fx_St (fx_St hs)) hl hm H locs ls hW hS hL) (fun h => kf (fun e => h ((fx_lt (fx_S1 (fx_St hs)) (fx_S1 hs)).mpr e)) (fx_St (fx_St hs)) hl hm H locs ls hW hS hL)
theorem A_icmpge {i j off : Int} {tgt : Nat} (hC : CX X b0 D cc own nL ret l rk mcR msR) (hd : decode cc pc = .ok (.if_icmp .ge off, 3)) (ht : (pc : Int) + off = (tgt : Int)) (kt : j ≤ i → AW X b0 D g kc ks Q n M tgt la st) (kf : ¬ j ≤ i → AW X b0 D g kc ks Q n M (pc + 3) la st) : AW X b0 D g kc ks Q n M pc la (.inl j :: .inl i :: st) := by
  intro hs hl hm H locs ls hW hS hL
  exact lv_icmp_ge (cx_x hC) (cx_b hC) hd ht (fun h => kt ((fx_le (fx_S1 hs) (fx_S1 (fx_St hs))).mp h) (fx_St (fx_St hs)) hl hm H locs ls hW hS hL) (fun h => kf (fun e => h ((fx_le (fx_S1 hs) (fx_S1 (fx_St hs))).mpr e)) (fx_St (fx_St hs)) hl hm H locs ls hW hS hL)
theorem A_icmpgt {i j off : Int} {tgt : Nat} (hC : CX X b0 D cc own nL ret l rk mcR msR) (hd : decode cc pc = .ok (.if_icmp .gt off, 3)) (ht : (pc : Int) + off = (tgt : Int)) (kt : j < i → AW X b0 D g kc ks Q n M tgt la st) (kf : ¬ j < i → AW X b0 D g kc ks Q n M (pc + 3) la st) : AW X b0 D g kc ks Q n M pc la (.inl j :: .inl i :: st) := by
  intro hs hl hm H locs ls hW hS hL
  exact lv_icmp_gt (cx_x hC) (cx_b hC) hd ht (fun h => kt ((fx_lt (fx_S1 hs) (fx_S1 (fx_St hs))).mp h) (fx_St (fx_St hs)) hl hm H locs ls hW hS hL) (fun h => kf (fun e => h ((fx_lt (fx_S1 hs) (fx_S1 (fx_St hs))).mpr e)) (fx_St (fx_St hs)) hl hm H locs ls hW hS hL)
theorem A_icmple {i j off : Int} {tgt : Nat} (hC : CX X b0 D cc own nL ret l rk mcR msR) (hd : decode cc pc = .ok (.if_icmp .le off, 3)) (ht : (pc : Int) + off = (tgt : Int)) (kt : i ≤ j → AW X b0 D g kc ks Q n M tgt la st) (kf : ¬ i ≤ j → AW X b0 D g kc ks Q n M (pc + 3) la st) : AW X b0 D g kc ks Q n M pc la (.inl j :: .inl i :: st) := by
  intro hs hl hm H locs ls hW hS hL
  exact lv_icmp_le (cx_x hC) (cx_b hC) hd ht (fun h => kt ((fx_le (fx_S1 (fx_St hs)) (fx_S1 hs)).mp h) (fx_St (fx_St hs)) hl hm H locs ls hW hS hL) (fun h => kf (fun e => h ((fx_le (fx_S1 (fx_St hs)) (fx_S1 hs)).mpr e)) (fx_St (fx_St hs)) hl hm H locs ls hW hS hL)
theorem A_icmpne {i j off : Int} {tgt : Nat} (hC : CX X b0 D cc own nL ret l rk mcR msR) (hd : decode cc pc = .ok (.if_icmp .ne off, 3)) (ht : (pc : Int) + off = (tgt : Int)) (kt : ¬ i = j → AW X b0 D g kc ks Q n M tgt la st) (kf : i = j → AW X b0 D g kc ks Q n M (pc + 3) la st) : AW X b0 D g kc ks Q n M pc la (.inl j :: .inl i :: st) := by
  intro hs hl hm H locs ls hW hS hL
  exact lv_icmp_ne (cx_x hC) (cx_b hC) hd ht (fun h => kt (fun e => h ((fx_eq (fx_S1 (fx_St hs)) (fx_S1 hs)).mpr e)) (fx_St (fx_St hs)) hl hm H locs ls hW hS hL) (fun h => kf ((fx_eq (fx_S1 (fx_St hs)) (fx_S1 hs)).mp (by first | exact h | exact Classical.not_not.mp h)) (fx_St (fx_St hs)) hl hm H locs ls hW hS hL)
theorem A_goto {off : Int} {tgt : Nat} (hC : CX X b0 D cc own nL ret l rk mcR msR) (hd : decode cc pc = .ok (.goto off, 3)) (ht : (pc : Int) + off = (tgt : Int)) (k : AW X b0 D g kc ks Q n M tgt la st) : AW X b0 D g kc ks Q n M pc la st := by
  intro hs hl hm H locs ls hW hS hL
  exact lv_goto (cx_x hC) (cx_b hC) hd ht (k hs hl hm H locs ls hW hS hL)
theorem A_ifnull {r off : Int} {tgt : Nat} (hC : CX X b0 D cc own nL ret l rk mcR msR) (hd : decode cc pc = .ok (.ifnull off, 3)) (ht : (pc : Int) + off = (tgt : Int)) (kt : r < 0 → AW X b0 D g kc ks Q n M tgt la st) (kf : ¬ r < 0 → AW X b0 D g kc ks Q n M (pc + 3) la st) : AW X b0 D g kc ks Q n M pc la (.inr r :: st) := by
  intro hs hl hm H locs ls hW hS hL
  rw [List.map_cons]
  by_cases h0 : r < 0
  · rw [fx_cn h0]
    exact lv_ifnullN (cx_x hC) (cx_b hC) hd ht (kt h0 (fx_St hs) hl hm H locs ls hW hS hL)
  · rw [fx_cr (by omega)]
    exact lv_ifnull (cx_x hC) (cx_b hC) hd (kf h0 (fx_St hs) hl hm H locs ls hW hS hL)
theorem A_ifnonnull {r off : Int} {tgt : Nat} (hC : CX X b0 D cc own nL ret l rk mcR msR) (hd : decode cc pc = .ok (.ifnonnull off, 3)) (ht : (pc : Int) + off = (tgt : Int)) (kt : ¬ r < 0 → AW X b0 D g kc ks Q n M tgt la st) (kf : r < 0 → AW X b0 D g kc ks Q n M (pc + 3) la st) : AW X b0 D g kc ks Q n M pc la (.inr r :: st) := by
  intro hs hl hm H locs ls hW hS hL
  rw [List.map_cons]
  by_cases h0 : r < 0
  · rw [fx_cn h0]
    exact lv_ifnonnullN (cx_x hC) (cx_b hC) hd (kf h0 (fx_St hs) hl hm H locs ls hW hS hL)
  · rw [fx_cr (by omega)]
    exact lv_ifnonnull (cx_x hC) (cx_b hC) hd ht (kt h0 (fx_St hs) hl hm H locs ls hW hS hL)
theorem A_dup {v : AV} (hC : CX X b0 D cc own nL ret l rk mcR msR) (hd : decode cc pc = .ok (.dup, 1)) (k : AW X b0 D g kc ks Q n M (pc + 1) la (v :: v :: st)) : AW X b0 D g kc ks Q n M pc la (v :: st) := by
  intro hs hl hm H locs ls hW hS hL
  exact lv_dup (cx_x hC) (cx_b hC) hd (fx_cat b0 v) (k (fx_Sc (fx_S1 hs) hs) hl hm H locs ls hW hS hL)
theorem A_pop {v : AV} (hC : CX X b0 D cc own nL ret l rk mcR msR) (hd : decode cc pc = .ok (.pop, 1)) (k : AW X b0 D g kc ks Q n M (pc + 1) la st) : AW X b0 D g kc ks Q n M pc la (v :: st) := by
  intro hs hl hm H locs ls hW hS hL
  exact lv_pop (cx_x hC) (cx_b hC) hd (fx_cat b0 v) (k (fx_St hs) hl hm H locs ls hW hS hL)
theorem A_dup_x1 {v u : AV} (hC : CX X b0 D cc own nL ret l rk mcR msR) (hd : decode cc pc = .ok (.dup_x1, 1)) (k : AW X b0 D g kc ks Q n M (pc + 1) la (v :: u :: v :: st)) : AW X b0 D g kc ks Q n M pc la (v :: u :: st) := by
  intro hs hl hm H locs ls hW hS hL
  exact lv_dup_x1 (cx_x hC) (cx_b hC) hd (fx_cat b0 v) (fx_cat b0 u) (k (fx_Sc (fx_S1 hs) (fx_Sc (fx_S1 (fx_St hs)) (fx_Sc (fx_S1 hs) (fx_St (fx_St hs))))) hl hm H locs ls hW hS hL)
theorem A_dup2 {v u : AV} (hC : CX X b0 D cc own nL ret l rk mcR msR) (hd : decode cc pc = .ok (.dup2, 1)) (k : AW X b0 D g kc ks Q n M (pc + 1) la (v :: u :: v :: u :: st)) : AW X b0 D g kc ks Q n M pc la (v :: u :: st) := by
  intro hs hl hm H locs ls hW hS hL
  exact lv_dup2_11 (cx_x hC) (cx_b hC) hd (fx_cat b0 v) (fx_cat b0 u) (k (fx_Sc (fx_S1 hs) (fx_Sc (fx_S1 (fx_St hs)) hs)) hl hm H locs ls hW hS hL)
/-- the words of a field: class number ci with N fields, its k-th; the link by which 'own' names it -/
def fx_F (own : String) (idx ci k N : Nat) : Prop := ∃ (Cn : String) (T : u_T), vwCl[ci]? = some (Cn, T, N) ∧ (∀ w ∈ u_ws Cn T N, w ∈ zG) ∧ k < N ∧ Cond.fieldLink own idx (T k).1 (T k).2.1 (T k).2.2.1 ∈ zG
def fx_P (own : String) (idx ci k N : Nat) (ty : FieldType) (fin : Bool) : Prop := ∃ (Cn : String) (T : u_T) (ty0 : Nat → FieldType), vwCl[ci]? = some (Cn, T, N) ∧ (∀ w ∈ u_ws Cn T N, w ∈ zG) ∧ k < N ∧ Cond.fieldLink own idx (T k).1 (T k).2.1 (T k).2.2.1 ∈ zG ∧ (∀ k, k < N → parseFieldDescriptor (T k).2.2.1 = some (ty0 k)) ∧ (∀ a, a < N → ∀ b, b < N → a ≠ b → (T a).2.1 ≠ (T b).2.1) ∧ (T k).2.2.2 = fin ∧ ty0 k = ty ∧ (T k).1 = Cn
theorem fx_stored {H H1 H0 : Heap} {locs : List Loc} {M' : Mem} {c : Nat} (hW : Wd b0 D n M H) (hS : va_S (fun q => b0 ≤ q) H0 H locs) (hc : c < n) (he : va_at D.1 vwCl (b0 + c, fx_en b0 D.2 M' c) H1) (z : H1.size = H.size) (oq : ∀ q : Nat, q ≠ b0 + c → H1[q]? = H[q]?) (hM : ∀ d : Nat, d ≠ c → fx_en b0 D.2 M' d = fx_en b0 D.2 M d) (k : Nat) : Wd b0 D n M' H1 ∧ va_S (fun q => b0 ≤ q) H0 H1 (locs ++ [⟨b0 + c, k⟩]) := by
  have h := hW.2.set (A := fun q => b0 ≤ q) fx_wl_D (fx_wl_at hc) he oq
  rw [fx_wl_set hc hM] at h
  exact ⟨⟨z.trans hW.1, h⟩, hS.put z oq (Nat.le_add_right _ _)⟩
theorem A_get {idx ci k N : Nat} {c : Int} (hC : CX X b0 D cc own nL ret l rk mcR msR) (hd : decode cc pc = .ok (.getfield idx, 3)) (hF : fx_F own idx ci k N) (h100 : ci < 100) (hly : fx_ly c = (ci, N)) (hc : 0 ≤ c ∧ c < n) (kk : AW X b0 D g kc ks Q n M (pc + 3) la (fx_fv ci k (M c k) :: st)) : AW X b0 D g kc ks Q n M pc la (.inr c :: st) := by
  intro hs hl hm H locs ls hW hS hL
  obtain ⟨Cn, T, hq, hin, hk, hlk⟩ := hF
  obtain ⟨c', rfl⟩ : ∃ c' : Nat, c = c' := ⟨c.toNat, by omega⟩
  rw [List.map_cons, fx_cr hc.1, Int.toNat_natCast]
  have hat := fx_wl_at (b0 := b0) (cA := D.2) (M := M) (show c' < n by omega)
  rw [fx_en_o hly h100] at hat
  exact va_get (D := D.1) (cl := vwCl) (cx_x hC) (cx_b hC) (cx_t hC) hin (cx_o hC) (cx_k hC) hW.2 c' hat hq k hk ((cx_t hC) _ hlk) (fun _ h => h) (fx_fs_at hk) hd (kk (fx_Sc (by show rg _; rw [fx_fv_v]; exact hm.1 _ _) (fx_St hs)) hl hm H locs ls hW hS hL)
theorem A_getI {idx ci k N : Nat} {c kI : Int} (hC : CX X b0 D cc own nL ret l rk mcR msR) (hd : decode cc pc = .ok (.getfield idx, 3)) (hF : fx_F own idx ci k N) (hI : ci < 100 ∧ fx_isr ci k = false) (hkI : (k : Int) = kI) (hly : fx_ly c = (ci, N)) (hc : 0 ≤ c ∧ c < n) (kk : AW X b0 D g kc ks Q n M (pc + 3) la (.inl (M c kI) :: st)) : AW X b0 D g kc ks Q n M pc la (.inr c :: st) := A_get hC hd hF hI.1 hly hc (by unfold fx_fv; rw [hI.2, hkI]; exact kk)
theorem A_getR {idx ci k N : Nat} {c kI : Int} (hC : CX X b0 D cc own nL ret l rk mcR msR) (hd : decode cc pc = .ok (.getfield idx, 3)) (hF : fx_F own idx ci k N) (hI : ci < 100 ∧ fx_isr ci k = true) (hkI : (k : Int) = kI) (hly : fx_ly c = (ci, N)) (hc : 0 ≤ c ∧ c < n) (kk : AW X b0 D g kc ks Q n M (pc + 3) la (.inr (M c kI) :: st)) : AW X b0 D g kc ks Q n M pc la (.inr c :: st) := A_get hC hd hF hI.1 hly hc (by unfold fx_fv; rw [hI.2, hkI]; exact kk)
theorem A_getCR {idx ci k N : Nat} {c v : Int} (hC : CX X b0 D cc own nL ret l rk mcR msR) (hd : decode cc pc = .ok (.getfield idx, 3)) (hF : fx_F own idx ci k N) (hI : ci < 100 ∧ fx_isr ci k = true) (hly : fx_ly c = (ci, N)) (hc : 0 ≤ c ∧ c < n) (hg : g = true ∧ fx_kk ci k = true) (hv : fx_cv c k = v) (kk : AW X b0 D g kc ks Q n M (pc + 3) la (.inr v :: st)) : AW X b0 D g kc ks Q n M pc la (.inr c :: st) := A_rng (fun _ _ h => A_getR hC hd hF hI rfl hly hc (by rw [h.2 hg.1 c k (by rw [hly]; exact hg.2), hv]; exact kk))
theorem A_getCI {idx ci k N : Nat} {c v : Int} (hC : CX X b0 D cc own nL ret l rk mcR msR) (hd : decode cc pc = .ok (.getfield idx, 3)) (hF : fx_F own idx ci k N) (hI : ci < 100 ∧ fx_isr ci k = false) (hly : fx_ly c = (ci, N)) (hc : 0 ≤ c ∧ c < n) (hg : g = true ∧ fx_kk ci k = true) (hv : fx_cv c k = v) (kk : AW X b0 D g kc ks Q n M (pc + 3) la (.inl v :: st)) : AW X b0 D g kc ks Q n M pc la (.inr c :: st) := A_rng (fun _ _ h => A_getI hC hd hF hI rfl hly hc (by rw [h.2 hg.1 c k (by rw [hly]; exact hg.2), hv]; exact kk))
theorem fx_nfI (b0 : Nat) (x : Int) : narrow .int (fx_co b0 (.inl x)) = fx_co b0 (.inl x) ∧ fits .int (fx_co b0 (.inl x)) = true := ⟨rfl, rfl⟩
theorem fx_nfZ (b0 : Nat) (x : Int) (h : x = 0 ∨ x = 1) : narrow .boolean (fx_co b0 (.inl x)) = fx_co b0 (.inl x) ∧ fits .boolean (fx_co b0 (.inl x)) = true := by
  rcases h with rfl | rfl
  · exact ⟨show narrow .boolean (.int (Int32.ofInt 0)) = .int (Int32.ofInt 0) by decide, show fits .boolean (.int (Int32.ofInt 0)) = true by decide⟩
  · exact ⟨show narrow .boolean (.int (Int32.ofInt 1)) = .int (Int32.ofInt 1) by decide, show fits .boolean (.int (Int32.ofInt 1)) = true by decide⟩
theorem fx_nfO (b0 : Nat) (x : Int) (Cn : String) : narrow (.object Cn) (fx_co b0 (.inr x)) = fx_co b0 (.inr x) ∧ fits (.object Cn) (fx_co b0 (.inr x)) = true := by
  show narrow _ (va_rf (fx_rf b0 x)) = va_rf (fx_rf b0 x) ∧ fits _ (va_rf (fx_rf b0 x)) = true
  rcases va_rf_or (fx_rf b0 x) with h | ⟨a, h⟩ <;> rw [h] <;> exact ⟨rfl, rfl⟩
theorem fx_nfA (b0 : Nat) (x : Int) (t : FieldType) : narrow (.array t) (fx_co b0 (.inr x)) = fx_co b0 (.inr x) ∧ fits (.array t) (fx_co b0 (.inr x)) = true := by
  show narrow _ (va_rf (fx_rf b0 x)) = va_rf (fx_rf b0 x) ∧ fits _ (va_rf (fx_rf b0 x)) = true
  rcases va_rf_or (fx_rf b0 x) with h | ⟨a, h⟩ <;> rw [h] <;> exact ⟨rfl, rfl⟩
/-- a field gets a value; 'fin': a final one, in its constructor -/
theorem A_put {idx ci k N : Nat} {c x : Int} {ty : FieldType} {fin : Bool} {v : AV} (hC : CX X b0 D cc own nL ret l rk mcR msR) (hd : decode cc pc = .ok (.putfield idx, 3)) (hF : fx_P own idx ci k N ty fin) (hfin : fin = true → (xt X).name = "<init>" ∧ ∀ Cn T, vwCl[ci]? = some (Cn, T, N) → Cn = own) (h100 : ci < 100) (hv : v = fx_fv ci k x) (hnf : narrow ty (fx_co b0 v) = fx_co b0 v ∧ fits ty (fx_co b0 v) = true) (hly : fx_ly c = (ci, N)) (hc : 0 ≤ c ∧ c < n) (hu : g = true → fx_kk ci k = false) (kk : AW X b0 D g kc ks Q n (up M c k x) (pc + 3) la st) : AW X b0 D g kc ks Q n M pc la (v :: .inr c :: st) := by
  intro hs hl hm H locs ls hW hS hL
  obtain ⟨Cn, T, ty0, hq, hin, hk, hlk, hty, hnm, hfi, hte, hdc⟩ := hF
  obtain ⟨c', rfl⟩ : ∃ c' : Nat, c = c' := ⟨c.toNat, by omega⟩
  rw [List.map_cons, List.map_cons, fx_cr hc.1, Int.toNat_natCast]
  have hcn : c' < n := by omega
  have hat := fx_wl_at (b0 := b0) (cA := D.2) (M := M) hcn
  rw [fx_en_o hly h100] at hat
  have hx : rg x := by have := fx_S1 hs; unfold fx_ok at this; rw [hv, fx_fv_v] at this; exact this
  have hts := (cx_t hC)
  have hK := (cx_k hC)
  have hap := va_apart (own := own) hts hin ty0 hty hnm hK hq
  obtain ⟨r, h1, cell, q1, q2, q3, q4⟩ := hW.2 c' _ hat
  have hr : r = (Cn, T, N) := Option.some.inj (h1.symm.trans hq)
  subst hr
  obtain ⟨hSl, hfc, kC, hkC, hkind⟩ := hK.1 ci _ hq
  obtain ⟨cf, kf, fi, f, hi, hsl⟩ := hSl k hk
  have hlay := hts _ (hin _ (u_in_lay hk))
  have hst := (u_facts hfc hkC (u_lays hts hin hk) hi).1
  have hpd : parseFieldDescriptor (T k).2.2.1 = some ty := by rw [hty k hk, hte]
  have fin2 : ∀ (H' : Heap), H'[b0 + c']? = some (cell.setSlot f.slot (fx_co b0 v)) → H'.size = H.size → (∀ q, q ≠ b0 + c' → H'[q]? = H[q]?) → WX X H' (locs ++ [⟨b0 + c', f.slot⟩]) kc ks Q (F0 (xm X) (pc + 3) ls (st.map (fx_co b0))) := by
    intro H' e1 e2 e3
    rw [hsl] at e1
    obtain ⟨a1, a2⟩ := fx_stored (M' := up M c' k x) hW hS hcn (by
      rw [fx_en_o hly h100, ← fx_fs_set hk]
      refine ⟨_, hq, t_OB.to (V := updV (vp_V (fx_fs b0 ci N M c')) k (fx_co b0 v)) ⟨_, e1, q2, q3, t_set q4 hap hk _⟩ (fun j _ => ?_)⟩
      rw [hv]
      exact vp_updV_set (by simp [fx_fs, hk]) _ j) e2 e3 (fun d hd => fx_en_up (by omega)) f.slot
    exact kk (fx_St (fx_St hs)) hl (fx_okM_up hm hx (by rw [hly]; exact hu)) H' _ ls a1 a2 hL
  cases fin with
  | false =>
    unfold u_lay at hlay
    rw [if_neg (by rw [hfi]; decide)] at hlay
    have h6 := u_store hfc hkC hkind hlay hi hpd hnf.1 hnf.2
    exact W.putK (cx_x hC) (cx_b hC) (f := f) ⟨(cx_o hC), hts _ hlk, ⟨_, _, _, hi⟩, hst⟩ (by rw [q2]; exact h6) q1 q3 (by rw [hsl]; exact k2_hasslot (q4 k hk)) rfl rfl hd fin2
  | true =>
    unfold u_lay at hlay
    rw [if_pos hfi] at hlay
    have hcf : (xm X).cls = cf := by
      obtain ⟨_, _, c2, _, _, _, -, -, hf', -, -, -, hown2, -⟩ := Cond.laysFinal_spec hlay
      have e1 : c2 = cf := by have := hi.symm.trans hf'; simp at this; exact this.1.symm
      rw [hdc, (hfin rfl).2 Cn T hq] at hown2
      rw [← e1]; exact Option.some.inj ((cx_o hC).symm.trans hown2)
    have h6 := u_fits hfc hkC hkind (Or.inr hlay) hi hpd hnf.1 hnf.2
    exact W.putFinK (cx_x hC) (cx_b hC) (cx_o hC) (hts _ hlk) hi hst hcf (hfin rfl).1 (by rw [q2]; exact h6) q1 q3 (by rw [hsl]; exact k2_hasslot (q4 k hk)) rfl rfl hd fin2
theorem fx_ff {P : Prop} : (false = true) → P := fun h => by cases h
theorem A_putI {idx ci k N : Nat} {c x kI : Int} (hC : CX X b0 D cc own nL ret l rk mcR msR) (hd : decode cc pc = .ok (.putfield idx, 3)) (hF : fx_P own idx ci k N .int false) (hI : ci < 100 ∧ fx_isr ci k = false) (hkI : (k : Int) = kI) (hly : fx_ly c = (ci, N)) (hc : 0 ≤ c ∧ c < n) (hu : g = true → fx_kk ci k = false) (kk : AW X b0 D g kc ks Q n (up M c kI x) (pc + 3) la st) : AW X b0 D g kc ks Q n M pc la (.inl x :: .inr c :: st) := by subst hkI; exact A_put hC hd hF fx_ff hI.1 (fx_isI ci k x hI.2).symm (fx_nfI b0 x) hly hc hu kk
theorem A_putZ {idx ci k N : Nat} {c x kI : Int} (hC : CX X b0 D cc own nL ret l rk mcR msR) (hd : decode cc pc = .ok (.putfield idx, 3)) (hF : fx_P own idx ci k N .boolean false) (hI : ci < 100 ∧ fx_isr ci k = false) (hkI : (k : Int) = kI) (hly : fx_ly c = (ci, N)) (hc : 0 ≤ c ∧ c < n) (hu : g = true → fx_kk ci k = false) (hx : x = 0 ∨ x = 1) (kk : AW X b0 D g kc ks Q n (up M c kI x) (pc + 3) la st) : AW X b0 D g kc ks Q n M pc la (.inl x :: .inr c :: st) := by subst hkI; exact A_put hC hd hF fx_ff hI.1 (fx_isI ci k x hI.2).symm (fx_nfZ b0 x hx) hly hc hu kk
theorem A_putR {idx ci k N : Nat} {c x kI : Int} {Cn : String} (hC : CX X b0 D cc own nL ret l rk mcR msR) (hd : decode cc pc = .ok (.putfield idx, 3)) (hF : fx_P own idx ci k N (.object Cn) false) (hI : ci < 100 ∧ fx_isr ci k = true) (hkI : (k : Int) = kI) (hly : fx_ly c = (ci, N)) (hc : 0 ≤ c ∧ c < n) (hu : g = true → fx_kk ci k = false) (kk : AW X b0 D g kc ks Q n (up M c kI x) (pc + 3) la st) : AW X b0 D g kc ks Q n M pc la (.inr x :: .inr c :: st) := by subst hkI; exact A_put hC hd hF fx_ff hI.1 (fx_isR ci k x hI.2).symm (fx_nfO b0 x Cn) hly hc hu kk
end ROWS
end
section
/-! ROWS of the abstract machine, second part: arrays, calls, ends, new cells, switches. -/
section ROWS2
variable {X : Cx} {b0 : Nat} {D : DD} {g : Bool} {kc ks : Nat} {Q : State → Prop} {n : Nat} {M : Mem} {pc : Nat} {la : List (Option AV)} {st : List AV} {cc : ByteArray} {own : String} {nL : Nat} {ret : Option FieldType} {l : Launch} {rk mcR msR : Nat}
theorem A_iald {N : Nat} {c i : Int} (hC : CX X b0 D cc own nL ret l rk mcR msR) (hd : decode cc pc = .ok (.iaload, 1)) (hly : fx_ly c = (100, N)) (hc : 0 ≤ c ∧ c < n) (hi : 0 ≤ i ∧ i < N) (kk : AW X b0 D g kc ks Q n M (pc + 1) la (.inl (M c i) :: st)) : AW X b0 D g kc ks Q n M pc la (.inl i :: .inr c :: st) := by
  intro hs hl hm H locs ls hW hS hL
  obtain ⟨c', rfl⟩ : ∃ c' : Nat, c = c' := ⟨c.toNat, by omega⟩
  rw [List.map_cons, List.map_cons, fx_cr hc.1, Int.toNat_natCast]
  have hat := fx_wl_at (b0 := b0) (cA := D.2) (M := M) (show c' < n by omega)
  rw [fx_en_i hly] at hat
  have hri : rg i := fx_S1 hs
  have k2 := kk (fx_Sc (hm.1 _ _) (fx_St (fx_St hs))) hl hm H locs ls hW hS hL
  refine va_iald (D := D.1) (cl := vwCl) (cx_x hC) (cx_b hC) (cx_k hC) hW.2 c' 0 hat rfl (fx_in hi.1 hi.2 hri) hd ?_
  rw [fx_clamp hri, Int.toNat_of_nonneg hi.1]
  exact k2
theorem A_zald {N : Nat} {c i : Int} (hC : CX X b0 D cc own nL ret l rk mcR msR) (hd : decode cc pc = .ok (.baload, 1)) (hly : fx_ly c = (101, N)) (hc : 0 ≤ c ∧ c < n) (hi : 0 ≤ i ∧ i < N) (kk : AW X b0 D g kc ks Q n M (pc + 1) la (.inl (M c i) :: st)) : AW X b0 D g kc ks Q n M pc la (.inl i :: .inr c :: st) := by
  intro hs hl hm H locs ls hW hS hL
  obtain ⟨c', rfl⟩ : ∃ c' : Nat, c = c' := ⟨c.toNat, by omega⟩
  rw [List.map_cons, List.map_cons, fx_cr hc.1, Int.toNat_natCast]
  have hat := fx_wl_at (b0 := b0) (cA := D.2) (M := M) (show c' < n by omega)
  rw [fx_en_z hly] at hat
  have hri : rg i := fx_S1 hs
  have k2 := kk (fx_Sc (hm.1 _ _) (fx_St (fx_St hs))) hl hm H locs ls hW hS hL
  refine va_zald (D := D.1) (cl := vwCl) (cx_x hC) (cx_b hC) (cx_k hC) hW.2 c' 1 hat rfl (fx_in hi.1 hi.2 hri) hd ?_
  rw [fx_clamp hri, Int.toNat_of_nonneg hi.1]
  exact k2
theorem A_aald {N : Nat} {c i : Int} (hC : CX X b0 D cc own nL ret l rk mcR msR) (hd : decode cc pc = .ok (.aaload, 1)) (hly : fx_ly c = (102, N)) (hc : 0 ≤ c ∧ c < n) (hi : 0 ≤ i ∧ i < N) (kk : AW X b0 D g kc ks Q n M (pc + 1) la (.inr (M c i) :: st)) : AW X b0 D g kc ks Q n M pc la (.inl i :: .inr c :: st) := by
  intro hs hl hm H locs ls hW hS hL
  obtain ⟨c', rfl⟩ : ∃ c' : Nat, c = c' := ⟨c.toNat, by omega⟩
  rw [List.map_cons, List.map_cons, fx_cr hc.1, Int.toNat_natCast]
  have hat := fx_wl_at (b0 := b0) (cA := D.2) (M := M) (show c' < n by omega)
  rw [fx_en_q hly] at hat
  have hri : rg i := fx_S1 hs
  have k2 := kk (fx_Sc (hm.1 _ _) (fx_St (fx_St hs))) hl hm H locs ls hW hS hL
  refine va_aldq (D := D.1) (cl := vwCl) (cx_x hC) (cx_b hC) (cx_k hC) hW.2 c' 2 hat rfl (fx_in hi.1 hi.2 hri) hd ?_
  rw [fx_clamp hri, Int.toNat_of_nonneg hi.1]
  exact k2
theorem A_aaldC {N : Nat} {c i v : Int} (hC : CX X b0 D cc own nL ret l rk mcR msR) (hd : decode cc pc = .ok (.aaload, 1)) (hly : fx_ly c = (102, N)) (hc : 0 ≤ c ∧ c < n) (hi : 0 ≤ i ∧ i < N) (hg : g = true ∧ fx_kk 102 i = true) (hv : fx_cv c i = v) (kk : AW X b0 D g kc ks Q n M (pc + 1) la (.inr v :: st)) : AW X b0 D g kc ks Q n M pc la (.inl i :: .inr c :: st) := A_rng (fun _ _ h => A_aald hC hd hly hc hi (by rw [h.2 hg.1 c i (by rw [hly]; exact hg.2), hv]; exact kk))
theorem A_alen {N ty : Nat} {c : Int} (hC : CX X b0 D cc own nL ret l rk mcR msR) (hd : decode cc pc = .ok (.arraylength, 1)) (hly : fx_ly c = (ty, N)) (hty : ty = 100 ∨ ty = 101 ∨ ty = 102) (hN : N < 2147483648) (hc : 0 ≤ c ∧ c < n) (kk : AW X b0 D g kc ks Q n M (pc + 1) la (.inl N :: st)) : AW X b0 D g kc ks Q n M pc la (.inr c :: st) := by
  intro hs hl hm H locs ls hW hS hL
  obtain ⟨c', rfl⟩ : ∃ c' : Nat, c = c' := ⟨c.toNat, by omega⟩
  rw [List.map_cons, fx_cr hc.1, Int.toNat_natCast]
  have hat := fx_wl_at (b0 := b0) (cA := D.2) (M := M) (show c' < n by omega)
  have k2 := kk (fx_Sc (v := .inl (N : Int)) (by show rg _; simp only [fx_v]; omega) (fx_St hs)) hl hm H locs ls hW hS hL
  rcases hty with rfl | rfl | rfl
  · rw [fx_en_i hly] at hat
    exact va_alen (D := D.1) (cl := vwCl) (cx_x hC) (cx_b hC) (cx_k hC) hW.2 c' 0 hat rfl Int32.ofInt_eq_ofNat.symm hd k2
  · rw [fx_en_z hly] at hat
    exact va_alen (D := D.1) (cl := vwCl) (cx_x hC) (cx_b hC) (cx_k hC) hW.2 c' 1 hat rfl Int32.ofInt_eq_ofNat.symm hd k2
  · rw [fx_en_q hly] at hat
    exact va_alen (D := D.1) (cl := vwCl) (cx_x hC) (cx_b hC) (cx_k hC) hW.2 c' 2 hat rfl Int32.ofInt_eq_ofNat.symm hd k2
theorem fx_updF {c' : Nat} {i x : Int} (hi : 0 ≤ i) : (fun j : Nat => Int32.ofInt (up M c' i x c' j)) = fun j : Nat => if j = i.toNat then Int32.ofInt x else Int32.ofInt (M c' j) := by
  funext j
  unfold up
  by_cases h : j = i.toNat
  · rw [if_pos h, if_pos ⟨rfl, by omega⟩]
  · rw [if_neg h, if_neg (by rintro ⟨-, e⟩; omega)]
theorem A_iast {N : Nat} {c i x : Int} (hC : CX X b0 D cc own nL ret l rk mcR msR) (hd : decode cc pc = .ok (.iastore, 1)) (hly : fx_ly c = (100, N)) (hc : 0 ≤ c ∧ c < n) (hi : 0 ≤ i ∧ i < N) (hu : g = true → fx_kk 100 i = false) (kk : AW X b0 D g kc ks Q n (up M c i x) (pc + 1) la st) : AW X b0 D g kc ks Q n M pc la (.inl x :: .inl i :: .inr c :: st) := by
  intro hs hl hm H locs ls hW hS hL
  obtain ⟨c', rfl⟩ : ∃ c' : Nat, c = c' := ⟨c.toNat, by omega⟩
  rw [List.map_cons, List.map_cons, List.map_cons, fx_cr hc.1, Int.toNat_natCast]
  have hcn : c' < n := by omega
  have hat := fx_wl_at (b0 := b0) (cA := D.2) (M := M) hcn
  rw [fx_en_i hly] at hat
  have hri : rg i := fx_S1 (fx_St hs)
  refine W.iast (cx_x hC) (cx_b hC) (j := Int32.ofInt i) (x := Int32.ofInt x) (hW.2 c' _ hat) (((cx_k hC).2 0 _ rfl).1 N (fun j => .int (Int32.ofInt (M c' j)))) (fun q => by cases q) (by show ¬ (_ ∨ (arrV _ _ _).slots.size ≤ _); rw [arrV_size]; exact fx_in hi.1 hi.2 hri) rfl rfl hd fun H1 e z oq => ?_
  obtain ⟨a1, a2⟩ := fx_stored (M' := up M c' i x) hW hS hcn (by
    rw [fx_en_i hly]
    show H1[b0 + c']? = some (vp_cell _ _)
    rw [e, vp_cell_i, vp_cell_i, arrV_store, fx_clamp hri]
    congr 2
    funext q
    have := congrFun (fx_updF (M := M) (c' := c') (x := x) hi.1) q
    rw [this]
    unfold updV
    split <;> rfl) z oq (fun d hd => fx_en_up (by omega)) (Int32.ofInt i).toNatClampNeg
  exact kk (fx_St (fx_St (fx_St hs))) hl (fx_okM_up hm (fx_S1 hs) (by rw [hly]; exact hu)) H1 _ ls a1 a2 hL
theorem A_zast {N : Nat} {c i x : Int} (hC : CX X b0 D cc own nL ret l rk mcR msR) (hd : decode cc pc = .ok (.bastore, 1)) (hly : fx_ly c = (101, N)) (hc : 0 ≤ c ∧ c < n) (hi : 0 ≤ i ∧ i < N) (hu : g = true → fx_kk 101 i = false) (hx : x = 0 ∨ x = 1) (kk : AW X b0 D g kc ks Q n (up M c i x) (pc + 1) la st) : AW X b0 D g kc ks Q n M pc la (.inl x :: .inl i :: .inr c :: st) := by
  intro hs hl hm H locs ls hW hS hL
  obtain ⟨c', rfl⟩ : ∃ c' : Nat, c = c' := ⟨c.toNat, by omega⟩
  rw [List.map_cons, List.map_cons, List.map_cons, fx_cr hc.1, Int.toNat_natCast]
  have hcn : c' < n := by omega
  have hat := fx_wl_at (b0 := b0) (cA := D.2) (M := M) hcn
  rw [fx_en_z hly] at hat
  have hri : rg i := fx_S1 (fx_St hs)
  have hnx : narrow .boolean (.int (Int32.ofInt x)) = .int (Int32.ofInt x) := (fx_nfZ b0 x hx).1
  refine W.zast (cx_x hC) (cx_b hC) (j := Int32.ofInt i) (x := Int32.ofInt x) (hW.2 c' _ hat) (((cx_k hC).2 1 _ rfl).1 N (fun j => .int (Int32.ofInt (M c' j)))) (fun q => by cases q) (by show ¬ (_ ∨ (arrV _ _ _).slots.size ≤ _); rw [arrV_size]; exact fx_in hi.1 hi.2 hri) rfl rfl hd fun H1 e z oq => ?_
  rw [hnx] at e
  obtain ⟨a1, a2⟩ := fx_stored (M' := up M c' i x) hW hS hcn (by
    rw [fx_en_z hly]
    show H1[b0 + c']? = some (vp_cell _ _)
    rw [e, vp_cell_i, vp_cell_i, arrV_store, fx_clamp hri]
    congr 2
    funext q
    have := congrFun (fx_updF (M := M) (c' := c') (x := x) hi.1) q
    rw [this]
    unfold updV
    split <;> rfl) z oq (fun d hd => fx_en_up (by omega)) (Int32.ofInt i).toNatClampNeg
  exact kk (fx_St (fx_St (fx_St hs))) hl (fx_okM_up hm (fx_S1 hs) (by rw [hly]; exact hu)) H1 _ ls a1 a2 hL
-- ===== contracts
def fx_Pc (b0 : Nat) (D : DD) (g : Bool) (as : List AV) (n : Nat) (M : Mem) : Array Value → State → Prop := va_Pc (as.map (fx_co b0)) (fun U => Wd b0 D n M U.heap ∧ fx_KK D U ∧ fx_okS as ∧ fx_okM g M)
def fx_Qc (b0 : Nat) (D : DD) (g : Bool) (post : Option AV → Nat → Mem → Prop) : Array Value → State → Outcome → State → Prop := fun _ s0 oc t => ∃ (r : Option AV) (n' : Nat) (M' : Mem), oc = .returned (r.map (fx_co b0)) ∧ fx_okO r ∧ fx_okM g M' ∧ post r n' M' ∧ Wd b0 D n' M' t.heap ∧ s0.heap.size ≤ t.heap.size ∧ ∀ q : Nat, q < b0 → t.heap[q]? = s0.heap[q]?
def fx_ws (md : MD) : List Cond := Cond.code md.1 md.2.1 md.2.2.1 md.2.2.2 :: zG
def fx_rm (rk mc ms : Nat) : Room := { frames := rk, cells := mc, slots := ms, locals := 40 * rk }
/-- the contract of a method: rank rk (how deep its calls go), mc new cells with ms slots -/
def AMet (l : Launch) (md : MD) (g : Bool) (rk mc ms : Nat) (as : List AV) (n : Nat) (M : Mem) (post : Option AV → Nat → Mem → Prop) : Prop :=
  ∀ (b0 : Nat) (D : DD), Met l md.1 (fx_ws md) (fx_rm rk mc ms) (fx_Pc b0 D g as n M) (fx_Qc b0 D g post) mc ms (fun q => b0 ≤ q)
/-- a method that makes nothing, with its answer and the cells behind it -/
def AF (l : Launch) (md : MD) (rk : Nat) (as : List AV) (n : Nat) (M : Mem) (r : Option AV) (M1 : Mem) : Prop := AMet l md true rk 0 0 as n M (fun r' n' M' => r' = r ∧ n' = n ∧ M' = M1)
def fx_Q (X : Cx) (b0 : Nat) (D : DD) (g : Bool) (mc ms : Nat) (post : Option AV → Nat → Mem → Prop) : State → Prop := MQ (xb X) (fx_Qc b0 D g post) (xa X) (xs X) mc ms (fun q => b0 ≤ q)
theorem AM_intro {md : MD} {mc ms : Nat} {as : List AV} {post : Option AV → Nat → Mem → Prop} (hy : plainName md.1.cls = true) (hlen : as.length ≤ md.2.2.1)
    (body : ∀ (X : Cx) (b0 : Nat) (D : DD), CX X b0 D md.2.1 md.1.cls md.2.2.1 md.2.2.2 l rk mc ms → (xt X).name = md.1.name → AW X b0 D g 0 0 (fx_Q X b0 D g mc ms post) n M 0 (as.map some ++ List.replicate (md.2.2.1 - as.length) none) []) : AMet l md g rk mc ms as n M post := by
  intro b0 D
  refine Met.ofW (cc := md.2.1) (maxL := md.2.2.1) (ret := md.2.2.2) hy rfl ?_
  intro p e s m args below meth c s₁ B hml hv
  obtain ⟨rfl, hW, hK, hoS, hoM⟩ := hv
  have hts := atoms_spec (ws := fx_ws md) B.pre
  have hown : s.vm.findClass md.1.cls = some m.cls := findClass_of_methodNamed B.named
  have hX := body (p, l, e, fx_rm rk mc ms, s, m, (as.map (fx_co b0)).toArray, below, meth, c) b0 D ⟨B.exec, B.bytes, hml, hown, fun w hw => hts w (List.mem_cons_of_mem _ hw), hK, by show b0 ≤ s.heap.size; rw [hW.1]; omega, B.notSynchronized, B.returns, rfl, Nat.le_refl _, Nat.le_refl _, Nat.le_refl _, Nat.le_refl _⟩ (name_of_methodNamed B.named B.method).1
  rw [lg_entry_eq]
  refine hX (fun v h => absurd h List.not_mem_nil) ?_ hoM s.heap [] _ hW va_S.rf ?_
  · intro v h
    rcases List.mem_append.mp h with h | h
    · obtain ⟨w, hw, e⟩ := List.mem_map.mp h
      exact (Option.some.inj e) ▸ hoS w hw
    · exact absurd (List.eq_of_mem_replicate h) (by simp)
  · have h1 := lv_entry (as.map (fx_co b0)) (n := md.2.2.1) (by rw [fx_sl]; simpa using hlen)
    obtain ⟨h2, h3, h4⟩ := h1
    refine ⟨by rw [h2]; simp; omega, h3, fun i v hi => ?_⟩
    refine h4 (i, fx_co b0 v) ?_
    rw [fx_L_entry]
    refine (fx_ll_mem (as.map some) 0 _).mpr ⟨i, v, ?_, by simp⟩
    by_cases hl : i < as.length
    · rw [List.getElem?_append_left (by simpa using hl)] at hi
      exact hi
    · rw [List.getElem?_append_right (by simpa using hl)] at hi
      have := List.mem_of_getElem? hi
      exact absurd (List.eq_of_mem_replicate this) (by simp)
-- ===== ends
variable {mc ms : Nat} {post : Option AV → Nat → Mem → Prop}
theorem fx_end {H : Heap} {locs : List Loc} {r : Option AV} (hr : fx_okO r) (hm : fx_okM g M) (hp : post r n M) (hb : b0 ≤ (xs X).heap.size) (hW : Wd b0 D n M H) (hS : va_S (fun q => b0 ≤ q) (xs X).heap H locs) : ∀ t : State, t.heap = H → (xs X).WarmedH t.vm → fx_Qc b0 D g post (xa X) (xs X) (.returned (r.map (fx_co b0))) t := by
  intro t ht _
  refine ⟨r, n, M, rfl, hr, hm, hp, by rw [ht]; exact hW, by rw [ht]; exact hS.1, fun q hq => ?_⟩
  rw [ht]
  exact hS.2.1 q (by omega) (by omega)
theorem A_iret {i : Int} (hC : CX X b0 D cc own nL ret l rk mcR msR) (hd : decode cc pc = .ok (.ireturn, 1)) (hret : ret = some .int) (h1 : kc ≤ mc) (h2 : ks ≤ ms) (hp : post (some (.inl i)) n M) : AW X b0 D g kc ks (fx_Q X b0 D g mc ms post) n M pc la [.inl i] := by
  intro hs hl hm H locs ls hW hS hL
  refine W.widen h1 h2 ?_
  exact W.iret (cx_x hC) (cx_b hC) (by rw [cx_rt hC, hret]) (fx_end (r := some (.inl i)) (fun v h => by cases h; exact fx_S1 hs) hm hp (cx_0 hC) hW hS) (fun q hq => hS.2.2 q hq) hd (cx_lk hC)
theorem A_zret {i : Int} (hC : CX X b0 D cc own nL ret l rk mcR msR) (hd : decode cc pc = .ok (.ireturn, 1)) (hret : ret = some .boolean) (h1 : kc ≤ mc) (h2 : ks ≤ ms) (hi : i = 0 ∨ i = 1) (hp : post (some (.inl i)) n M) : AW X b0 D g kc ks (fx_Q X b0 D g mc ms post) n M pc la [.inl i] := by
  intro hs hl hm H locs ls hW hS hL
  refine W.widen h1 h2 ?_
  exact W.zret (cx_x hC) (cx_b hC) (ty := .boolean) (by rw [cx_rt hC, hret]) (fx_nfZ b0 i hi).1 (fx_end (r := some (.inl i)) (fun v h => by cases h; exact fx_S1 hs) hm hp (cx_0 hC) hW hS) (fun q hq => hS.2.2 q hq) hd (cx_lk hC)
theorem A_aret {r : Int} {Cn : String} (hC : CX X b0 D cc own nL ret l rk mcR msR) (hd : decode cc pc = .ok (.areturn, 1)) (hret : ret = some (.object Cn)) (h1 : kc ≤ mc) (h2 : ks ≤ ms) (hp : post (some (.inr r)) n M) : AW X b0 D g kc ks (fx_Q X b0 D g mc ms post) n M pc la [.inr r] := by
  intro hs hl hm H locs ls hW hS hL
  refine W.widen h1 h2 ?_
  exact W.aret (cx_x hC) (cx_b hC) (rt := .object Cn) (by rw [cx_rt hC, hret]) (Or.inl ⟨Cn, rfl⟩) (va_rf_or _) (fx_end (r := some (.inr r)) (fun v h => by cases h; exact fx_S1 hs) hm hp (cx_0 hC) hW hS) (fun q hq => hS.2.2 q hq) hd (cx_lk hC)
theorem A_vret (hC : CX X b0 D cc own nL ret l rk mcR msR) (hd : decode cc pc = .ok (.return_, 1)) (hret : ret = none) (h1 : kc ≤ mc) (h2 : ks ≤ ms) (hp : post none n M) : AW X b0 D g kc ks (fx_Q X b0 D g mc ms post) n M pc la [] := by
  intro hs hl hm H locs ls hW hS hL
  refine W.widen h1 h2 ?_
  exact W.vret (cx_x hC) (cx_b hC) (by rw [cx_rt hC, hret]) (fx_end (r := none) (fun v h => by cases h) hm hp (cx_0 hC) hW hS) (fun q hq => hS.2.2 q hq) hd (cx_lk hC)
-- ===== calls
theorem fx_catS (b0 : Nat) (st : List AV) : ((st.map (fx_co b0)).map fun v => v.category).sum = st.length := by
  induction st with
  | nil => rfl
  | cons v st ih => simp only [List.map_cons, List.sum_cons, fx_cat, ih, List.length_cons]; omega
theorem A_run {st0 : List AV} {a0 : Array Value} {mcx msx : Nat} (hb : b0 ≤ (xs X).heap.size)
    (hrun : ∀ (H : Heap) (locs : List Loc) (ls : Array Slot), fx_okS st0 → fx_okM g M → Wd b0 D n M H → fx_L b0 ls la → va_Run (xp X) (xl X) (xe X) (xR X) (xs X) (xm X) (xa X) (xb X) (xt X) (xc X) H locs kc ks mcx msx (F0 (xm X) pc ls (st0.map (fx_co b0))) (st.map (fx_co b0)) (fx_Qc b0 D g post a0) (fun q => b0 ≤ q))
    (hst : ∀ v ∈ st, v ∈ st0) (kk : ∀ (r : Option AV) (n' : Nat) (M' : Mem), post r n' M' → AW X b0 D g (kc + mcx) (ks + msx) Q n' M' (pc + 3) la (r.toList ++ st)) : AW X b0 D g kc ks Q n M pc la st0 := by
  intro hs hl hm H locs ls hW hS hL T hT S0
  obtain ⟨v, st₀, t, T', L, h0, X', hLo, e1, e2, ⟨r, n', M', hv, hor, hom, hp, hW', hz, hk⟩, go⟩ := hrun H locs ls hs hm hW hL T hT S0
  cases hv
  rw [h0] at hz hk
  obtain ⟨t2, a1, b1⟩ := kk r n' M' hp (fun v hv => by
      rcases List.mem_append.mp hv with h | h
      · exact hor v (by simpa using h)
      · exact hs v (hst v h)) hl hom t.heap (locs ++ L) ls hW'
    ⟨Nat.le_trans hS.1 hz, fun q h1 h2 => by rw [hk q (by omega)]; exact hS.2.1 q h1 h2, fun q hq => by
      rcases List.mem_append.mp hq with h | h
      · exact hS.2.2 q h
      · exact hLo q h⟩ hL T' e1 X'
  refine ⟨t2, go t2 ?_, b1⟩
  have : (r.toList ++ st).map (fx_co b0) = (r.map (fx_co b0)).toList ++ st.map (fx_co b0) := by cases r <;> rfl
  rw [this] at a1
  exact a1
theorem fx_blind {as : List AV} : FrameBlind (fx_Pc b0 D g as n M) := fun a U fr mk q => by
  obtain ⟨q0, q1, qK, q3⟩ := q
  exact ⟨q0, q1, fx_KK.same (u := U) (U := U.calling fr mk a) rfl qK, q3⟩
/-- what the tables say of a method: an instance's (C: its class), a static one; na parameters -/
def MV (md : MD) (na : Nat) : Prop := Cond.instanceMethod md.1 ∈ zG ∧ Cond.initialized md.1.cls ∈ zG ∧ Cond.code md.1 md.2.1 md.2.2.1 md.2.2.2 ∈ zG ∧ (md.1.cls ≠ "java/lang/invoke/MethodHandle" ∧ md.1.cls ≠ "java/lang/invoke/VarHandle" ∧ (parseMethodDescriptor md.1.desc).map (fun d => d.parameters.length) = some na) ∧ md.2.2.1 ≤ 20
def MSt (md : MD) (na : Nat) : Prop := Cond.static md.1 ∈ zG ∧ Cond.initialized md.1.cls ∈ zG ∧ Cond.code md.1 md.2.1 md.2.2.1 md.2.2.2 ∈ zG ∧ (md.1.cls ≠ "java/lang/invoke/MethodHandle" ∧ md.1.cls ≠ "java/lang/invoke/VarHandle" ∧ (parseMethodDescriptor md.1.desc).map (fun d => d.parameters.length) = some na) ∧ md.2.2.1 ≤ 20
theorem fx_gi {md : MD} (h : Cond.code md.1 md.2.1 md.2.2.1 md.2.2.2 ∈ zG) : GoodIn zG (fx_ws md) := fun w hw => by
  rcases List.mem_cons.mp hw with rfl | hw
  · exact ⟨h, zG_good h⟩
  · exact ⟨hw, zG_good hw⟩
theorem fx_cB {md : MD} {na idx mcx msx r' : Nat} (hC : CX X b0 D cc own nL ret l rk mcR msR) (hc : Cond.code md.1 md.2.1 md.2.2.1 md.2.2.2 ∈ zG) (hi : Cond.initialized md.1.cls ∈ zG) (hd : md.1.cls ≠ "java/lang/invoke/MethodHandle" ∧ md.1.cls ≠ "java/lang/invoke/VarHandle" ∧ (parseMethodDescriptor md.1.desc).map (fun d => d.parameters.length) = some na) (h20 : md.2.2.1 ≤ 20) (hl : Cond.methodLink own idx md.1 ∈ zG) (hr : r' < rk) : CallB (xR X) (xs X) (xa X) own idx md.1 md.2.1 md.2.2.1 md.2.2.2 (fx_ws md) (fx_rm r' mcx msx) mcx msx na := by
  have hR := cx_R hC
  exact callB_of na (cx_t hC) (fx_gi hc) rfl rfl rfl (cx_t hC _ hi) (cx_t hC _ hl) hd ⟨by show r' + 1 ≤ _; omega, by show 8 + (md.2.2.1 + 11) + 40 * r' ≤ _; omega⟩
theorem fx_cN {md : MD} {host : String} {na idx mcx msx r' : Nat} (hC : CX X b0 D cc own nL ret l rk mcR msR) (hc : Cond.code md.1 md.2.1 md.2.2.1 md.2.2.2 ∈ zG) (hi : Cond.initialized md.1.cls ∈ zG) (hd : md.1.cls ≠ "java/lang/invoke/MethodHandle" ∧ md.1.cls ≠ "java/lang/invoke/VarHandle" ∧ (parseMethodDescriptor md.1.desc).map (fun d => d.parameters.length) = some na) (h20 : md.2.2.1 ≤ 20) (hl : (own, idx, md.1, host) ∈ fx_nest) (hr : r' < rk) : va_CN (xR X) (xs X) (xa X) own idx md.1 host md.2.1 md.2.2.1 md.2.2.2 (fx_ws md) (fx_rm r' mcx msx) mcx msx na := by
  have hR := cx_R hC
  exact va_cnB na (cx_t hC) (fx_gi hc) rfl rfl rfl ((cx_kk hC).2.2 _ hl) (cx_t hC _ hi) hd ⟨by show r' + 1 ≤ _; omega, by show 8 + (md.2.2.1 + 11) + 40 * r' ≤ _; omega⟩
theorem A_callV {idx na mcx msx r' : Nat} {md : MD} {as st0 : List AV} {c : Int} (hC : CX X b0 D cc own nL ret l rk mcR msR) (hd : decode cc pc = .ok (.invokevirtual idx, 3)) (hmv : MV md na) (hlk : Cond.methodLink own idx md.1 ∈ zG) (hr : r' < rk) (hsel : Cond.selects md.1.cls md.1 md.1 ∈ zG) {ci N : Nat} {T : u_T} (hq : vwCl[ci]? = some (md.1.cls, T, N) ∧ ci < 100) (hly : fx_ly c = (ci, N)) (hc : 0 ≤ c ∧ c < n) (hM : AMet l md g r' mcx msx (.inr c :: as) n M post) (hst : as.reverse ++ .inr c :: st = st0) (hna : as.length = na) (h8 : st.length ≤ 8) (hf : kc + mcx ≤ mcR ∧ ks + msx ≤ msR) (hlen : la.length = nL)
    (kk : ∀ (r : Option AV) (n' : Nat) (M' : Mem), post r n' M' → AW X b0 D g (kc + mcx) (ks + msx) Q n' M' (pc + 3) la (r.toList ++ st)) : AW X b0 D g kc ks Q n M pc la st0 := by
  subst hst
  have hR := cx_R hC
  refine A_run (a0 := ((.inr c :: as).map (fx_co b0)).toArray) (mcx := mcx) (msx := msx) (post := post) (st := st) (cx_0 hC) (fun H locs ls hs hm hW hL => ?_) (fun v hv => List.mem_append_right _ (List.mem_cons_of_mem _ hv)) kk
  obtain ⟨c', rfl⟩ : ∃ c' : Nat, c = c' := ⟨c.toNat, by omega⟩
  have hat := fx_wl_at (b0 := b0) (cA := D.2) (M := M) (show c' < n by omega)
  rw [fx_en_o hly hq.2] at hat
  have hcr : fx_co b0 (.inr (c' : Int)) = .ref (b0 + c') := by rw [fx_cr hc.1, Int.toNat_natCast]
  have hM' := hM b0 D
  rw [← cx_l hC] at hM'
  have hcw : (((.inr (c' : Int) :: as).map (fx_co b0)).toArray) = (Value.ref (b0 + c') :: as.map (fx_co b0)).toArray := by rw [List.map_cons, hcr]
  rw [hcw]
  refine va_runV (As := as.map (fx_co b0)) (rest := st.map (fx_co b0)) ⟨cx_x hC, cx_b hC, cx_ml hC, cx_o hC, cx_t hC⟩ hM' ⟨fx_cB hC hmv.2.2.1 hmv.2.1 hmv.2.2.2.1 hmv.2.2.2.2 hlk hr, cx_t hC _ hmv.1, cx_t hC _ hsel⟩ ⟨fx_blind, va_recv (cx_k hC) hW.2 hq.1 hat, fun U hU hWm => ⟨by rw [List.map_cons, hcr], by rw [hU]; exact hW, fx_KK.warm hWm (cx_kk hC), fun v hv => ?_, hm⟩⟩ rfl (by simpa using hna) (by rw [← hlen]; exact hL.1) (by simp [List.map_append, hcr]) (lv_room (by rw [fx_catS]; exact h8)) hd ⟨by omega, by omega⟩
  rcases List.mem_cons.mp hv with rfl | hv
  · exact hs _ (List.mem_append_right _ List.mem_cons_self)
  · exact hs _ (List.mem_append_left _ (List.mem_reverse.mpr hv))
theorem A_VF {idx na r' : Nat} {md : MD} {as st0 : List AV} {c : Int} {r : Option AV} {M1 : Mem} (hC : CX X b0 D cc own nL ret l rk mcR msR) (hd : decode cc pc = .ok (.invokevirtual idx, 3)) (hmv : MV md na) (hlk : Cond.methodLink own idx md.1 ∈ zG) (hr : r' < rk) (hsel : Cond.selects md.1.cls md.1 md.1 ∈ zG) {ci N : Nat} {T : u_T} (hq : vwCl[ci]? = some (md.1.cls, T, N) ∧ ci < 100) (hly : fx_ly c = (ci, N)) (hc : 0 ≤ c ∧ c < n) (hM : AF l md r' (.inr c :: as) n M r M1) (hst : as.reverse ++ .inr c :: st = st0) (hna : as.length = na) (h8 : st.length ≤ 8) (hf : kc ≤ mcR ∧ ks ≤ msR) (hlen : la.length = nL) (kk : AW X b0 D true kc ks Q n M1 (pc + 3) la (r.toList ++ st)) : AW X b0 D true kc ks Q n M pc la st0 := A_callV hC hd hmv hlk hr hsel hq hly hc hM hst hna h8 hf hlen (fun r' n' M' h => by obtain ⟨rfl, rfl, rfl⟩ := h; exact kk)
theorem A_callVN {idx na mcx msx r' : Nat} {host : String} {md : MD} {as st0 : List AV} {c : Int} (hC : CX X b0 D cc own nL ret l rk mcR msR) (hd : decode cc pc = .ok (.invokevirtual idx, 3)) (hmv : MV md na) (hlk : (own, idx, md.1, host) ∈ fx_nest) (hr : r' < rk) (hsel : Cond.selects md.1.cls md.1 md.1 ∈ zG) {ci N : Nat} {T : u_T} (hq : vwCl[ci]? = some (md.1.cls, T, N) ∧ ci < 100) (hly : fx_ly c = (ci, N)) (hc : 0 ≤ c ∧ c < n) (hM : AMet l md g r' mcx msx (.inr c :: as) n M post) (hst : as.reverse ++ .inr c :: st = st0) (hna : as.length = na) (h8 : st.length ≤ 8) (hf : kc + mcx ≤ mcR ∧ ks + msx ≤ msR) (hlen : la.length = nL)
    (kk : ∀ (r : Option AV) (n' : Nat) (M' : Mem), post r n' M' → AW X b0 D g (kc + mcx) (ks + msx) Q n' M' (pc + 3) la (r.toList ++ st)) : AW X b0 D g kc ks Q n M pc la st0 := by
  subst hst
  have hR := cx_R hC
  refine A_run (a0 := ((.inr c :: as).map (fx_co b0)).toArray) (mcx := mcx) (msx := msx) (post := post) (st := st) (cx_0 hC) (fun H locs ls hs hm hW hL => ?_) (fun v hv => List.mem_append_right _ (List.mem_cons_of_mem _ hv)) kk
  obtain ⟨c', rfl⟩ : ∃ c' : Nat, c = c' := ⟨c.toNat, by omega⟩
  have hat := fx_wl_at (b0 := b0) (cA := D.2) (M := M) (show c' < n by omega)
  rw [fx_en_o hly hq.2] at hat
  have hcr : fx_co b0 (.inr (c' : Int)) = .ref (b0 + c') := by rw [fx_cr hc.1, Int.toNat_natCast]
  have hM' := hM b0 D
  rw [← cx_l hC] at hM'
  have hcw : (((.inr (c' : Int) :: as).map (fx_co b0)).toArray) = (Value.ref (b0 + c') :: as.map (fx_co b0)).toArray := by rw [List.map_cons, hcr]
  rw [hcw]
  refine va_runVN (As := as.map (fx_co b0)) (rest := st.map (fx_co b0)) ⟨cx_x hC, cx_b hC, cx_ml hC, cx_o hC, cx_t hC⟩ hM' ⟨fx_cN hC hmv.2.2.1 hmv.2.1 hmv.2.2.2.1 hmv.2.2.2.2 hlk hr, cx_t hC _ hmv.1, cx_t hC _ hsel⟩ ⟨fx_blind, va_recv (cx_k hC) hW.2 hq.1 hat, fun U hU hWm => ⟨by rw [List.map_cons, hcr], by rw [hU]; exact hW, fx_KK.warm hWm (cx_kk hC), fun v hv => ?_, hm⟩⟩ rfl (by simpa using hna) (by rw [← hlen]; exact hL.1) (by simp [List.map_append, hcr]) (lv_room (by rw [fx_catS]; exact h8)) hd ⟨by omega, by omega⟩
  rcases List.mem_cons.mp hv with rfl | hv
  · exact hs _ (List.mem_append_right _ List.mem_cons_self)
  · exact hs _ (List.mem_append_left _ (List.mem_reverse.mpr hv))
theorem A_VNF {idx na r' : Nat} {host : String} {md : MD} {as st0 : List AV} {c : Int} {r : Option AV} {M1 : Mem} (hC : CX X b0 D cc own nL ret l rk mcR msR) (hd : decode cc pc = .ok (.invokevirtual idx, 3)) (hmv : MV md na) (hlk : (own, idx, md.1, host) ∈ fx_nest) (hr : r' < rk) (hsel : Cond.selects md.1.cls md.1 md.1 ∈ zG) {ci N : Nat} {T : u_T} (hq : vwCl[ci]? = some (md.1.cls, T, N) ∧ ci < 100) (hly : fx_ly c = (ci, N)) (hc : 0 ≤ c ∧ c < n) (hM : AF l md r' (.inr c :: as) n M r M1) (hst : as.reverse ++ .inr c :: st = st0) (hna : as.length = na) (h8 : st.length ≤ 8) (hf : kc ≤ mcR ∧ ks ≤ msR) (hlen : la.length = nL) (kk : AW X b0 D true kc ks Q n M1 (pc + 3) la (r.toList ++ st)) : AW X b0 D true kc ks Q n M pc la st0 := A_callVN hC hd hmv hlk hr hsel hq hly hc hM hst hna h8 hf hlen (fun r' n' M' h => by obtain ⟨rfl, rfl, rfl⟩ := h; exact kk)
theorem A_callS {idx na mcx msx r' : Nat} {md : MD} {as st0 : List AV} (hC : CX X b0 D cc own nL ret l rk mcR msR) (hd : decode cc pc = .ok (.invokestatic idx, 3)) (hmv : MSt md na) (hlk : Cond.methodLink own idx md.1 ∈ zG) (hr : r' < rk) (hM : AMet l md g r' mcx msx as n M post) (hst : as.reverse ++ st = st0) (hna : as.length = na) (h8 : st.length ≤ 8) (hf : kc + mcx ≤ mcR ∧ ks + msx ≤ msR) (hlen : la.length = nL)
    (kk : ∀ (r : Option AV) (n' : Nat) (M' : Mem), post r n' M' → AW X b0 D g (kc + mcx) (ks + msx) Q n' M' (pc + 3) la (r.toList ++ st)) : AW X b0 D g kc ks Q n M pc la st0 := by
  subst hst
  have hR := cx_R hC
  refine A_run (a0 := (as.map (fx_co b0)).toArray) (mcx := mcx) (msx := msx) (post := post) (st := st) (cx_0 hC) (fun H locs ls hs hm hW hL => ?_) (fun v hv => List.mem_append_right _ hv) kk
  have hM' := hM b0 D
  rw [← cx_l hC] at hM'
  refine va_runS (As := as.map (fx_co b0)) (rest := st.map (fx_co b0)) ⟨cx_x hC, cx_b hC, cx_ml hC, cx_o hC, cx_t hC⟩ hM' ⟨fx_cB hC hmv.2.2.1 hmv.2.1 hmv.2.2.2.1 hmv.2.2.2.2 hlk hr, cx_t hC _ hmv.1⟩ ⟨fx_blind, fun U hU hWm => ⟨rfl, by rw [hU]; exact hW, fx_KK.warm hWm (cx_kk hC), fun v hv => ?_, hm⟩⟩ rfl (by simpa using hna) (by rw [← hlen]; exact hL.1) (by simp [List.map_append]) (lv_room (by rw [fx_catS]; exact h8)) hd ⟨by omega, by omega⟩
  exact hs _ (List.mem_append_left _ (List.mem_reverse.mpr hv))
theorem A_SF {idx na r' : Nat} {md : MD} {as st0 : List AV} {r : Option AV} {M1 : Mem} (hC : CX X b0 D cc own nL ret l rk mcR msR) (hd : decode cc pc = .ok (.invokestatic idx, 3)) (hmv : MSt md na) (hlk : Cond.methodLink own idx md.1 ∈ zG) (hr : r' < rk) (hM : AF l md r' as n M r M1) (hst : as.reverse ++ st = st0) (hna : as.length = na) (h8 : st.length ≤ 8) (hf : kc ≤ mcR ∧ ks ≤ msR) (hlen : la.length = nL) (kk : AW X b0 D true kc ks Q n M1 (pc + 3) la (r.toList ++ st)) : AW X b0 D true kc ks Q n M pc la st0 := A_callS hC hd hmv hlk hr hM hst hna h8 hf hlen (fun r' n' M' h => by obtain ⟨rfl, rfl, rfl⟩ := h; exact kk)
theorem A_callSN {idx na mcx msx r' : Nat} {host : String} {md : MD} {as st0 : List AV} (hC : CX X b0 D cc own nL ret l rk mcR msR) (hd : decode cc pc = .ok (.invokestatic idx, 3)) (hmv : MSt md na) (hlk : (own, idx, md.1, host) ∈ fx_nest) (hr : r' < rk) (hM : AMet l md g r' mcx msx as n M post) (hst : as.reverse ++ st = st0) (hna : as.length = na) (h8 : st.length ≤ 8) (hf : kc + mcx ≤ mcR ∧ ks + msx ≤ msR) (hlen : la.length = nL)
    (kk : ∀ (r : Option AV) (n' : Nat) (M' : Mem), post r n' M' → AW X b0 D g (kc + mcx) (ks + msx) Q n' M' (pc + 3) la (r.toList ++ st)) : AW X b0 D g kc ks Q n M pc la st0 := by
  subst hst
  have hR := cx_R hC
  refine A_run (a0 := (as.map (fx_co b0)).toArray) (mcx := mcx) (msx := msx) (post := post) (st := st) (cx_0 hC) (fun H locs ls hs hm hW hL => ?_) (fun v hv => List.mem_append_right _ hv) kk
  have hM' := hM b0 D
  rw [← cx_l hC] at hM'
  refine va_runSN (As := as.map (fx_co b0)) (rest := st.map (fx_co b0)) ⟨cx_x hC, cx_b hC, cx_ml hC, cx_o hC, cx_t hC⟩ hM' ⟨fx_cN hC hmv.2.2.1 hmv.2.1 hmv.2.2.2.1 hmv.2.2.2.2 hlk hr, cx_t hC _ hmv.1, trivial⟩ ⟨fx_blind, fun U hU hWm => ⟨rfl, by rw [hU]; exact hW, fx_KK.warm hWm (cx_kk hC), fun v hv => ?_, hm⟩⟩ rfl (by simpa using hna) (by rw [← hlen]; exact hL.1) (by simp [List.map_append]) (lv_room (by rw [fx_catS]; exact h8)) hd ⟨by omega, by omega⟩
  exact hs _ (List.mem_append_left _ (List.mem_reverse.mpr hv))
theorem A_SNF {idx na r' : Nat} {host : String} {md : MD} {as st0 : List AV} {r : Option AV} {M1 : Mem} (hC : CX X b0 D cc own nL ret l rk mcR msR) (hd : decode cc pc = .ok (.invokestatic idx, 3)) (hmv : MSt md na) (hlk : (own, idx, md.1, host) ∈ fx_nest) (hr : r' < rk) (hM : AF l md r' as n M r M1) (hst : as.reverse ++ st = st0) (hna : as.length = na) (h8 : st.length ≤ 8) (hf : kc ≤ mcR ∧ ks ≤ msR) (hlen : la.length = nL) (kk : AW X b0 D true kc ks Q n M1 (pc + 3) la (r.toList ++ st)) : AW X b0 D true kc ks Q n M pc la st0 := A_callSN hC hd hmv hlk hr hM hst hna h8 hf hlen (fun r' n' M' h => by obtain ⟨rfl, rfl, rfl⟩ := h; exact kk)
theorem A_callI {idx na mcx msx r' : Nat} {md : MD} {as st0 : List AV} {c : Int} (hC : CX X b0 D cc own nL ret l rk mcR msR) (hd : decode cc pc = .ok (.invokespecial idx, 3)) (hmv : MV md na) (hlk : Cond.methodLink own idx md.1 ∈ zG) (hr : r' < rk) (hini : md.1.name = "<init>" ∧ md.2.2.2 = none) (hc : 0 ≤ c) (hM : AMet l md g r' mcx msx (.inr c :: as) n M post) (hst : as.reverse ++ .inr c :: st = st0) (hna : as.length = na) (h8 : st.length ≤ 8) (hf : kc + mcx ≤ mcR ∧ ks + msx ≤ msR) (hlen : la.length = nL)
    (kk : ∀ (r : Option AV) (n' : Nat) (M' : Mem), post r n' M' → AW X b0 D g (kc + mcx) (ks + msx) Q n' M' (pc + 3) la (r.toList ++ st)) : AW X b0 D g kc ks Q n M pc la st0 := by
  subst hst
  have hR := cx_R hC
  refine A_run (a0 := ((.inr c :: as).map (fx_co b0)).toArray) (mcx := mcx) (msx := msx) (post := post) (st := st) (cx_0 hC) (fun H locs ls hs hm hW hL => ?_) (fun v hv => List.mem_append_right _ (List.mem_cons_of_mem _ hv)) kk
  obtain ⟨c', rfl⟩ : ∃ c' : Nat, c = c' := ⟨c.toNat, by omega⟩
  have hcr : fx_co b0 (.inr (c' : Int)) = .ref (b0 + c') := by rw [fx_cr hc, Int.toNat_natCast]
  have hM' := hM b0 D
  rw [← cx_l hC] at hM'
  have hcw : (((.inr (c' : Int) :: as).map (fx_co b0)).toArray) = (Value.ref (b0 + c') :: as.map (fx_co b0)).toArray := by rw [List.map_cons, hcr]
  rw [hcw]
  obtain ⟨my, mb, mm, mr⟩ := md
  obtain ⟨h1, h2⟩ := hini
  dsimp only at h1 h2
  subst h2
  refine va_runI (As := as.map (fx_co b0)) (rest := st.map (fx_co b0)) ⟨cx_x hC, cx_b hC, cx_ml hC, cx_o hC, cx_t hC⟩ hM' ⟨fx_cB hC hmv.2.2.1 hmv.2.1 hmv.2.2.2.1 hmv.2.2.2.2 hlk hr, h1, cx_t hC _ hmv.1⟩ ⟨fx_blind, fun U hU hWm => ⟨by rw [List.map_cons, hcr], by rw [hU]; exact hW, fx_KK.warm hWm (cx_kk hC), fun v hv => ?_, hm⟩⟩ rfl (by simpa using hna) (by rw [← hlen]; exact hL.1) (by simp [List.map_append, hcr]) (lv_room (by rw [fx_catS]; exact h8)) hd ⟨by omega, by omega⟩
  rcases List.mem_cons.mp hv with rfl | hv
  · exact hs _ (List.mem_append_right _ List.mem_cons_self)
  · exact hs _ (List.mem_append_left _ (List.mem_reverse.mpr hv))
theorem A_callIN {idx na mcx msx r' : Nat} {host : String} {md : MD} {as st0 : List AV} {c : Int} (hC : CX X b0 D cc own nL ret l rk mcR msR) (hd : decode cc pc = .ok (.invokespecial idx, 3)) (hmv : MV md na) (hlk : (own, idx, md.1, host) ∈ fx_nest) (hr : r' < rk) (hini : md.1.name = "<init>" ∧ md.2.2.2 = none) (hc : 0 ≤ c) (hM : AMet l md g r' mcx msx (.inr c :: as) n M post) (hst : as.reverse ++ .inr c :: st = st0) (hna : as.length = na) (h8 : st.length ≤ 8) (hf : kc + mcx ≤ mcR ∧ ks + msx ≤ msR) (hlen : la.length = nL)
    (kk : ∀ (r : Option AV) (n' : Nat) (M' : Mem), post r n' M' → AW X b0 D g (kc + mcx) (ks + msx) Q n' M' (pc + 3) la (r.toList ++ st)) : AW X b0 D g kc ks Q n M pc la st0 := by
  subst hst
  have hR := cx_R hC
  refine A_run (a0 := ((.inr c :: as).map (fx_co b0)).toArray) (mcx := mcx) (msx := msx) (post := post) (st := st) (cx_0 hC) (fun H locs ls hs hm hW hL => ?_) (fun v hv => List.mem_append_right _ (List.mem_cons_of_mem _ hv)) kk
  obtain ⟨c', rfl⟩ : ∃ c' : Nat, c = c' := ⟨c.toNat, by omega⟩
  have hcr : fx_co b0 (.inr (c' : Int)) = .ref (b0 + c') := by rw [fx_cr hc, Int.toNat_natCast]
  have hM' := hM b0 D
  rw [← cx_l hC] at hM'
  have hcw : (((.inr (c' : Int) :: as).map (fx_co b0)).toArray) = (Value.ref (b0 + c') :: as.map (fx_co b0)).toArray := by rw [List.map_cons, hcr]
  rw [hcw]
  obtain ⟨my, mb, mm, mr⟩ := md
  obtain ⟨h1, h2⟩ := hini
  dsimp only at h1 h2
  subst h2
  refine va_runIN (As := as.map (fx_co b0)) (rest := st.map (fx_co b0)) ⟨cx_x hC, cx_b hC, cx_ml hC, cx_o hC, cx_t hC⟩ hM' ⟨fx_cN hC hmv.2.2.1 hmv.2.1 hmv.2.2.2.1 hmv.2.2.2.2 hlk hr, h1, cx_t hC _ hmv.1⟩ ⟨fx_blind, fun U hU hWm => ⟨by rw [List.map_cons, hcr], by rw [hU]; exact hW, fx_KK.warm hWm (cx_kk hC), fun v hv => ?_, hm⟩⟩ rfl (by simpa using hna) (by rw [← hlen]; exact hL.1) (by simp [List.map_append, hcr]) (lv_room (by rw [fx_catS]; exact h8)) hd ⟨by omega, by omega⟩
  rcases List.mem_cons.mp hv with rfl | hv
  · exact hs _ (List.mem_append_right _ List.mem_cons_self)
  · exact hs _ (List.mem_append_left _ (List.mem_reverse.mpr hv))
end ROWS2
end
section
/-! ROWS of the abstract machine, third part. -/
section ROWS3
variable {X : Cx} {b0 : Nat} {D : DD} {g : Bool} {kc ks : Nat} {Q : State → Prop} {n : Nat} {M : Mem} {pc : Nat} {la : List (Option AV)} {st : List AV} {cc : ByteArray} {own : String} {nL : Nat} {ret : Option FieldType} {l : Launch} {rk mcR msR : Nat} {mc ms : Nat} {post : Option AV → Nat → Mem → Prop}
theorem A_objInit {idx : Nat} {c : Int} (hC : CX X b0 D cc own nL ret l rk mcR msR) (hd : decode cc pc = .ok (.invokespecial idx, 3)) (h1 : Cond.methodLink own idx Lib.objectInit ∈ zG) (h2 : Cond.instanceMethod Lib.objectInit ∈ zG) (h3 : Cond.code Lib.objectInit ⟨#[0xb1]⟩ 1 none ∈ zG) (hc : 0 ≤ c) (hf : 1 ≤ rk) (h8 : st.length ≤ 8) (hlen : la.length = nL) (kk : AW X b0 D g kc ks Q n M (pc + 3) la st) : AW X b0 D g kc ks Q n M pc la (.inr c :: st) := by
  intro hs hl hm H locs ls hW hS hL
  rw [List.map_cons, fx_cr hc]
  have hR0 := (cx_R hC)
  exact W.objInit (cx_x hC) (cx_b hC) (cx_o hC) ((cx_t hC) _ h1) ((cx_t hC) _ h2) ((cx_t hC) _ h3) rfl (by rw [(cx_ml hC), ← hlen]; exact hL.1) rfl hd (by omega) (by rw [fx_catS]; show 2 * 0 + _ + 12 ≤ _; omega) (kk (fx_St hs) hl hm H locs ls hW hS hL)
-- ===== new cells
def fx_rd (c : Int) (k : Int) : Bool := if (fx_ly c).1 = 102 then true else if (fx_ly c).1 < 100 then fx_isr (fx_ly c).1 k.toNat else false
def nw (M : Mem) (c : Int) : Mem := fun c' k => if c' = c then (if fx_rd c k = true then -1 else 0) else M c' k
theorem nw_ne {c c' k : Int} (h : c' ≠ c) : nw M c c' k = M c' k := by unfold nw; rw [if_neg h]
theorem fx_okM_nw {c : Int} (hg : g = false) (h : fx_okM g M) : fx_okM g (nw M c) := by
  refine ⟨fun c' k => ?_, fun e => by rw [hg] at e; cases e⟩
  unfold nw
  split
  · split <;> decide
  · exact h.1 c' k
theorem fx_pushed {H H1 H0 : Heap} {locs : List Loc} (hW : Wd b0 D n M H) (hS : va_S (fun q => b0 ≤ q) H0 H locs) (he : va_at D.1 vwCl (b0 + n, fx_en b0 D.2 (nw M n) n) H1) (z : H1.size = H.size + 1) (oq : ∀ q : Nat, q < H.size → H1[q]? = H[q]?) : Wd b0 D (n + 1) (nw M n) H1 ∧ va_S (fun q => b0 ≤ q) H0 H1 locs := by
  refine ⟨⟨by rw [z, hW.1]; omega, ?_⟩, Nat.le_trans hS.1 (by omega), fun q h1 h2 => by rw [oq q (Nat.lt_of_lt_of_le h1 hS.1)]; exact hS.2.1 q h1 h2, hS.2.2⟩
  have e1 : fx_wl b0 D.2 (n + 1) (nw M n) = fx_wl b0 D.2 n M ++ [(b0 + n, fx_en b0 D.2 (nw M n) n)] := by
    simp only [fx_wl, List.range_succ, List.map_append, List.map_cons, List.map_nil]
    congr 1
    apply List.map_congr_left
    intro d hd
    have hd := List.mem_range.mp hd
    have e : ∀ j : Int, nw M n d j = M d j := fun j => nw_ne (by omega)
    simp only [fx_en, fx_fs, e]
  rw [e1]
  refine (hW.2.kept (fun k q hk => oq q.1 (hW.2 k q hk).lt)).app (fun k q hk => ?_)
  have hz : k < 1 := (List.getElem?_eq_some_iff.mp hk).1
  rw [show k = 0 by omega] at hk
  cases hk
  exact he
def fx_N (own : String) (idx ci N : Nat) : Prop := ∃ (Cn : String) (T : u_T) (ty0 : Nat → FieldType), vwCl[ci]? = some (Cn, T, N) ∧ (∀ w ∈ u_ws Cn T N, w ∈ zG) ∧ (∀ k, k < N → parseFieldDescriptor (T k).2.2.1 = some (ty0 k)) ∧ Cond.classLink own idx Cn ∈ zG ∧ Cond.instantiable Cn N ∈ zG ∧ Cond.initialized Cn ∈ zG ∧ ∀ k, k < N → defaultValue (ty0 k) = if fx_isr ci k = true then .null else .int 0
theorem A_new {idx ci N : Nat} (hC : CX X b0 D cc own nL ret l rk mcR msR) (hd : decode cc pc = .ok (.new idx, 3)) (hN : fx_N own idx ci N) (h100 : ci < 100) (hly : fx_ly n = (ci, N)) (hn : n < 2147483648) (hg : g = false) (h1 : kc + 1 ≤ mcR) (h2 : ks + N ≤ msR) (kk : AW X b0 D g (kc + 1) (ks + N) Q (n + 1) (nw M n) (pc + 3) la (.inr n :: st)) : AW X b0 D g kc ks Q n M pc la st := by
  intro hs hl hm H locs ls hW hS hL
  obtain ⟨Cn, T, ty0, hq, hin, hty, g1, g2, g3, hdf⟩ := hN
  have hts := (cx_t hC)
  have hR0 := (cx_R hC)
  have hKn := (cx_k hC).1 ci _ hq
  refine W.newcK (cx_x hC) (cx_b hC) (cx_o hC) (hts _ g1) (hts _ g2) (hts _ g3) rfl hd (by omega) (by omega) hKn.2.1 hW.1 fun H1 kC hkC e1 z1 o1 => ?_
  obtain ⟨a1, a2⟩ := fx_pushed hW hS (H1 := H1) (by
    rw [fx_en_o hly h100]
    refine ⟨_, hq, (u_born ty0 hts hin hKn hkC e1 hty).to (fun j hj => ?_)⟩
    rw [hdf j hj]
    show _ = (fx_fs b0 ci N (nw M n) n).getD j .null
    rw [List.getD_eq_getElem?_getD, fx_fs_at hj]
    show _ = fx_co b0 (fx_fv ci j (nw M n n j))
    have e : nw M n n j = if fx_isr ci j = true then -1 else 0 := by
      unfold nw fx_rd
      rw [if_pos rfl, hly]
      simp only [show ¬ ci = 102 by omega, h100, if_true, if_false, Int.toNat_natCast]
    rw [e]
    unfold fx_fv
    cases fx_isr ci j <;> rfl) (by rw [z1, hW.1]) (fun q hq => o1 q (by rw [← hW.1]; exact hq))
  have k2 := kk (fx_Sc (v := .inr (n : Int)) (by show rg _; simp only [fx_v]; omega) hs) hl (fx_okM_nw hg hm) H1 locs ls a1 a2 hL
  rw [List.map_cons, fx_cr (by omega), Int.toNat_natCast] at k2
  exact k2
/-- a new array of ints (ty 100) or of booleans (101) -/
theorem A_newa {atype : ArrayType} {ty N t0 : Nat} {fty : FieldType} (hC : CX X b0 D cc own nL ret l rk mcR msR) (hd : decode cc pc = .ok (.newarray atype, 2)) (hw : Cond.arrayClass fty ∈ zG) (hat : newarray.typeOf atype = fty) (hty : (ty = 100 ∧ t0 = 0 ∧ fty = .int) ∨ (ty = 101 ∧ t0 = 1 ∧ fty = .boolean)) (hly : fx_ly n = (ty, N)) (hN : N < 100000) (hn : n < 2147483648) (hg : g = false) (h1 : kc + 1 ≤ mcR) (h2 : ks + N ≤ msR) (kk : AW X b0 D g (kc + 1) (ks + N) Q (n + 1) (nw M n) (pc + 2) la (.inr n :: st)) : AW X b0 D g kc ks Q n M pc la (.inl N :: st) := by
  intro hs hl hm H locs ls hW hS hL
  have hts := (cx_t hC)
  have hR0 := (cx_R hC)
  have hrN : rg (N : Int) := by omega
  have hcl : (Int32.ofInt (N : Int)).toNatClampNeg = N := by rw [fx_clamp hrN]; omega
  refine va_newaK (cx_x hC) (cx_b hC) (by rw [hat]; exact hts _ hw) rfl hd (n := Int32.ofInt N) rfl (by rw [fx_lt0 hrN]; omega) hcl (by rw [hat]; rcases hty with ⟨-, -, rfl⟩ | ⟨-, -, rfl⟩ <;> simp only [componentBytes] <;> omega) (by omega) (by omega) hW.1 fun H1 cA e1 z1 o1 hAr hNm => ?_
  rw [hat] at e1 hNm
  have hz : ∀ j : Nat, nw M n n j = 0 := fun j => by
    unfold nw fx_rd
    rw [if_pos rfl, hly]
    rcases hty with ⟨rfl, -, -⟩ | ⟨rfl, -, -⟩ <;> simp
  have hk2 := ((cx_k hC).2 t0 (D.2 t0, fty) (by rcases hty with ⟨-, rfl, rfl⟩ | ⟨-, rfl, rfl⟩ <;> rfl)).2
  have hcA : cA = D.2 t0 := by
    rcases hty with ⟨-, rfl, rfl⟩ | ⟨-, rfl, rfl⟩ <;> exact Option.some.inj (hNm.symm.trans hk2)
  subst hcA
  obtain ⟨a1, a2⟩ := fx_pushed hW hS (H1 := H1) (by
    rcases hty with ⟨rfl, rfl, rfl⟩ | ⟨rfl, rfl, rfl⟩
    · rw [fx_en_i hly]
      show H1[b0 + n]? = some (vp_cell _ _)
      rw [e1, vp_cell_i]
      simp only [hz]
      rfl
    · rw [fx_en_z hly]
      show H1[b0 + n]? = some (vp_cell _ _)
      rw [e1, vp_cell_i]
      simp only [hz]
      rfl) (by rw [z1, hW.1]) (fun q hq => o1 q (by rw [← hW.1]; exact hq))
  have k2 := kk (fx_Sc (v := .inr (n : Int)) (by show rg _; simp only [fx_v]; omega) (fx_St hs)) hl (fx_okM_nw hg hm) H1 locs ls a1 a2 hL
  rw [List.map_cons, fx_cr (by omega), Int.toNat_natCast] at k2
  exact k2
theorem A_newq {idx N : Nat} (hC : CX X b0 D cc own nL ret l rk mcR msR) (hd : decode cc pc = .ok (.anewarray idx, 3)) (hw : Cond.classLink own idx fx_elem ∈ zG) (hly : fx_ly n = (102, N)) (hN : N < 100000) (hn : n < 2147483648) (hg : g = false) (h1 : kc + 1 ≤ mcR) (h2 : ks + N ≤ msR) (kk : AW X b0 D g (kc + 1) (ks + N) Q (n + 1) (nw M n) (pc + 3) la (.inr n :: st)) : AW X b0 D g kc ks Q n M pc la (.inl N :: st) := by
  intro hs hl hm H locs ls hW hS hL
  have hR0 := cx_R hC
  have hrN : rg (N : Int) := by omega
  have hcl : (Int32.ofInt (N : Int)).toNatClampNeg = N := by rw [fx_clamp hrN]; omega
  refine W.anew (cx_x hC) (cx_b hC) (cx_o hC) (cx_t hC _ hw) (va_AO.use (cx_kk hC).2.1) rfl hd (n := Int32.ofInt N) rfl (by rw [fx_lt0 hrN]; omega) (by rw [hcl]; omega) (by omega) (by rw [hcl]; omega) fun cA kA comp f1 f2 f3 f4 => ?_
  rw [hcl]
  have hz : ∀ j : Nat, nw M n n j = -1 := fun j => by
    unfold nw fx_rd
    rw [if_pos rfl, hly]
    simp
  obtain ⟨_, _, _, _, _, hk2⟩ := ((cx_k hC).2 2 (D.2 2, .object fx_elem) rfl).2
  have hcA : cA = D.2 2 := Option.some.inj (f1.symm.trans hk2)
  subst hcA
  obtain ⟨a1, a2⟩ := fx_pushed hW hS (H1 := H.push { cls := D.2 2, slots := Array.replicate N .null, vm := .none }) (by
    rw [fx_en_q hly]
    show (H.push _)[b0 + n]? = some (vp_cell _ _)
    rw [← hW.1, Array.getElem?_push_size, vp_cell_q, arrV_new]
    simp only [hz]
    rfl) (by rw [Array.size_push]) (fun q hq => by rw [Array.getElem?_push, if_neg (Nat.ne_of_lt hq)])
  have k2 := kk (fx_Sc (v := .inr (n : Int)) (by show rg _; simp only [fx_v]; omega) (fx_St hs)) hl (fx_okM_nw hg hm) _ locs ls a1 a2 hL
  rw [List.map_cons, fx_cr (by omega), Int.toNat_natCast, ← hW.1] at k2
  exact k2
/-- an array of steps gets a step (while the system is being built) -/
theorem A_aast {N N2 : Nat} {c i x : Int} (hC : CX X b0 D cc own nL ret l rk mcR msR) (hd : decode cc pc = .ok (.aastore, 1)) (hly : fx_ly c = (102, N)) (hc : 0 ≤ c ∧ c < n) (hi : 0 ≤ i ∧ i < N) (hx : 0 ≤ x ∧ x < n) (hlx : fx_ly x = (5, N2)) (hu : g = true → fx_kk 102 i = false) (kk : AW X b0 D g kc ks Q n (up M c i x) (pc + 1) la st) : AW X b0 D g kc ks Q n M pc la (.inr x :: .inl i :: .inr c :: st) := by
  intro hs hl hm H locs ls hW hS hL
  obtain ⟨c', rfl⟩ : ∃ c' : Nat, c = c' := ⟨c.toNat, by omega⟩
  obtain ⟨x', rfl⟩ : ∃ x' : Nat, x = x' := ⟨x.toNat, by omega⟩
  rw [List.map_cons, List.map_cons, List.map_cons, fx_cr hc.1, fx_cr hx.1, Int.toNat_natCast, Int.toNat_natCast]
  have hcn : c' < n := by omega
  have hat := fx_wl_at (b0 := b0) (cA := D.2) (M := M) hcn
  rw [fx_en_q hly] at hat
  have hax := fx_wl_at (b0 := b0) (cA := D.2) (M := M) (show x' < n by omega)
  rw [fx_en_o hlx (by decide)] at hax
  have hri : rg i := fx_S1 (fx_St hs)
  have h5 : ¬ Int32.ofInt i < 0 := by rw [fx_lt0 hri]; omega
  have h6 : (Int32.ofInt i).toNatClampNeg < N := by rw [fx_clamp hri]; omega
  obtain ⟨r', hr', cellV, g1, g2, g3, -⟩ := hW.2 x' _ hax
  have hcls := ((cx_k hC).1 5 (R_St, T_St, 11) rfl).2
  obtain ⟨kA, comp, k1, k2, k3, -⟩ := ((cx_k hC).2 2 (D.2 2, .object fx_elem) rfl).2
  have hcomp : comp = D.1.1 5 := Option.some.inj (k3.symm.trans hcls.1)
  subst hcomp
  obtain ⟨kC, hkC, -⟩ := hcls.2
  refine W.aast (cx_x hC) (cx_b hC) (j := Int32.ofInt i) (hW.2 c' _ hat) (fun q h => by cases h) (fun h => by cases h) k1 k2 rfl hkC ⟨h5, by show _ < (arrV _ _ _).slots.size; rw [arrV_size]; exact h6⟩ g1 (fun q h => by rw [g3] at h; cases h) (by rw [g2]; exact hkC) (by rw [g2]; exact va_assign hcls) rfl rfl hd fun H1 e z oq => ?_
  obtain ⟨a1, a2⟩ := fx_stored (M' := up M c' i x') hW hS hcn (by
    rw [fx_en_q hly]
    show H1[b0 + c']? = some (vp_cell _ _)
    rw [e, vp_cell_q, vp_cell_q, arrV_store, fx_clamp hri]
    congr 2
    funext q
    unfold updV up
    by_cases h : q = i.toNat
    · rw [if_pos h, if_pos ⟨rfl, by omega⟩, fx_rs (by omega), Int.toNat_natCast]
      rfl
    · rw [if_neg h, if_neg (by rintro ⟨-, e⟩; omega)]) z oq (fun d hd => fx_en_up (by omega)) (Int32.ofInt i).toNatClampNeg
  exact kk (fx_St (fx_St (fx_St hs))) hl (fx_okM_up hm (fx_S1 hs) (by rw [hly]; exact hu)) H1 _ ls a1 a2 hL
end ROWS3
end
section
/-! ROWS of the abstract machine, fourth part: switches, the JDK. -/
section ROWS4
variable {X : Cx} {b0 : Nat} {D : DD} {g : Bool} {kc ks : Nat} {Q : State → Prop} {n : Nat} {M : Mem} {pc : Nat} {la : List (Option AV)} {st : List AV} {cc : ByteArray} {own : String} {nL : Nat} {ret : Option FieldType} {l : Launch} {rk mcR msR : Nat} {mc ms : Nat} {post : Option AV → Nat → Mem → Prop}
/-- the arms of a table: i = lo, lo + 1, .. -/
def fx_cs (P : Nat → Prop) (i : Int) : Int → List Nat → Prop
  | _, [] => True
  | lo, t :: ts => (i = lo → P t) ∧ fx_cs P i (lo + 1) ts
theorem fx_cs_at {P : Nat → Prop} {i : Int} : ∀ (ts : List Nat) (lo : Int) (j t : Nat), fx_cs P i lo ts → ts[j]? = some t → i = lo + j → P t
  | [], _, j, _, _, hj, _ => by simp at hj
  | t0 :: ts, lo, 0, t, h, hj, hi => by
    simp at hj; subst hj
    exact h.1 (by simpa using hi)
  | t0 :: ts, lo, j + 1, t, h, hj, hi => fx_cs_at ts (lo + 1) j t h.2 (by simpa using hj) (by omega)
theorem A_tsw {dflt lo hi i : Int} {offs : Array Int} {len td : Nat} (tg : List Nat) (hC : CX X b0 D cc own nL ret l rk mcR msR) (hd : decode cc pc = .ok (.tableswitch dflt lo hi offs, len)) (ho : offs.toList = tg.map (fun t : Nat => (t : Int) - pc)) (hlen : (tg.length : Int) = hi + 1 - lo) (ht : (pc : Int) + dflt = (td : Int)) (kk : fx_cs (fun t => AW X b0 D g kc ks Q n M t la st) i lo tg) (kd : i < lo ∨ hi < i → AW X b0 D g kc ks Q n M td la st) : AW X b0 D g kc ks Q n M pc la (.inl i :: st) := by
  intro hs hl hm H locs ls hW hS hL
  have hri : rg i := fx_S1 hs
  by_cases h : i < lo ∨ hi < i
  · exact lv_tableOut (cx_x hC) (cx_b hC) hd (by rw [fx_toI hri]; exact h) ht (kd h (fx_St hs) hl hm H locs ls hW hS hL)
  · have h1 : ¬ i < lo := fun q => h (Or.inl q)
    have h2 : ¬ hi < i := fun q => h (Or.inr q)
    have hj : (i - lo).toNat < tg.length := by omega
    have ha := fx_cs_at tg lo (i - lo).toNat tg[(i - lo).toNat] kk (List.getElem?_eq_getElem hj) (by omega)
    have hof : offs[(i - lo).toNat]? = some ((tg[(i - lo).toNat] : Int) - pc) := by
      rw [← Array.getElem?_toList, ho, List.getElem?_map, List.getElem?_eq_getElem hj]
      rfl
    exact lv_tableIn (cx_x hC) (cx_b hC) hd (by rw [fx_toI hri]; exact h1) (by rw [fx_toI hri]; exact h2) (by rw [fx_toI hri]; exact hof) (by omega) (ha (fx_St hs) hl hm H locs ls hW hS hL)
/-- the arms of a lookup, then the rest -/
def fx_lk (P : Nat → Prop) (i : Int) (td : Nat) : List (Int × Nat) → Prop
  | [] => P td
  | (a, t) :: r => (i = a → P t) ∧ (¬ i = a → fx_lk P i td r)
theorem fx_lk_off {P : Nat → Prop} {i dflt : Int} {pc td : Nat} (ht : (pc : Int) + dflt = (td : Int)) : ∀ (r : List (Int × Nat)), fx_lk P i td r → ∃ t : Nat, (pc : Int) + Op.lookupswitch.offset (r.map (fun q : Int × Nat => (q.1, (q.2 : Int) - pc))) dflt i = t ∧ P t
  | [], h => ⟨td, ht, h⟩
  | (a, t) :: r, h => by
    rw [List.map_cons, Op.lookupswitch.offset_cons]
    by_cases e : i = a
    · rw [if_pos e.symm]
      exact ⟨t, by omega, h.1 e⟩
    · rw [if_neg (fun q => e q.symm)]
      exact fx_lk_off ht r (h.2 e)
theorem A_lsw {dflt i : Int} {ps : Array (Int × Int)} {len td : Nat} (tg : List (Int × Nat)) (hC : CX X b0 D cc own nL ret l rk mcR msR) (hd : decode cc pc = .ok (.lookupswitch dflt ps, len)) (hp : (ps.toList.zip (ps.toList.drop 1)).all (fun (a, next) => a.1 < next.1) = true) (ho : ps.toList = tg.map (fun q : Int × Nat => (q.1, (q.2 : Int) - pc))) (ht : (pc : Int) + dflt = (td : Int)) (kk : fx_lk (fun t => AW X b0 D g kc ks Q n M t la st) i td tg) : AW X b0 D g kc ks Q n M pc la (.inl i :: st) := by
  intro hs hl hm H locs ls hW hS hL
  have hri : rg i := fx_S1 hs
  obtain ⟨t, h1, h2⟩ := fx_lk_off (pc := pc) ht tg kk
  rw [← ho] at h1
  exact lv_lookup (cx_x hC) (cx_b hC) hd hp (by rw [fx_toI hri]) h1 (h2 (fx_St hs) hl hm H locs ls hW hS hL)
theorem A_mmax {idx : Nat} {i j : Int} (hC : CX X b0 D cc own nL ret l rk mcR msR) (hd : decode cc pc = .ok (.invokestatic idx, 3)) (h1 : Cond.methodLink own idx Lib.Math.max.name ∈ zG) (h2 : Cond.static Lib.Math.max.name ∈ zG) (h3 : Cond.initialized "java/lang/Math" ∈ zG) (h4 : Cond.code Lib.Math.max.name Lib.Math.max.code 2 (some .int) ∈ zG) (hf : 1 ≤ rk) (h8 : st.length ≤ 8) (hc : kc ≤ mcR ∧ ks ≤ msR) (hlen : la.length = nL) (kk : AW X b0 D g kc ks Q n M (pc + 3) la (.inl (if i < j then j else i) :: st)) : AW X b0 D g kc ks Q n M pc la (.inl j :: .inl i :: st) := by
  intro hs hl hm H locs ls hW hS hL
  have hR0 := (cx_R hC)
  have hj : rg j := fx_S1 hs
  have hi : rg i := fx_S1 (fx_St hs)
  have k2 := kk (fx_Sc (by show rg _; simp only [fx_v]; split <;> assumption) (fx_St (fx_St hs))) hl hm H locs ls hW hS hL
  refine va_mmax (cx_x hC) (cx_b hC) (by rw [(cx_ml hC), ← hlen]; exact hL.1.symm) (cx_o hC) ((cx_t hC) _ h1) ((cx_t hC) _ h2) ((cx_t hC) _ h3) ((cx_t hC) _ h4) (by omega) (by rw [fx_catS]; omega) (by omega) (by omega) hd ?_
  have e : (if Int32.ofInt i < Int32.ofInt j then Int32.ofInt j else Int32.ofInt i) = Int32.ofInt (if i < j then j else i) := by
    by_cases h : i < j
    · rw [if_pos h, if_pos ((fx_lt hi hj).mpr h)]
    · rw [if_neg h, if_neg (fun q => h ((fx_lt hi hj).mp q))]
  rw [e]
  exact k2
/-- what System.arraycopy leaves -/
def cpy (M : Mem) (c1 sp c2 dp k : Int) : Mem := fun c j => if c = c2 ∧ dp ≤ j ∧ j < dp + k then M c1 (sp + (j - dp)) else M c j
theorem fx_en_cpy {c1 sp dp k : Int} {c2 d : Nat} (h : d ≠ c2) : fx_en b0 D.2 (cpy M c1 sp c2 dp k) d = fx_en b0 D.2 M d := by
  have e : ∀ j : Int, cpy M c1 sp c2 dp k d j = M d j := fun j => by unfold cpy; rw [if_neg (by omega)]
  simp only [fx_en, fx_fs, e]
theorem A_copy {idx N1 N2 : Nat} {c1 sp c2 dp k : Int} (hC : CX X b0 D cc own nL ret l rk mcR msR) (hd : decode cc pc = .ok (.invokestatic idx, 3)) (h1 : Cond.methodLink own idx arraycopyName ∈ zG) (h2 : Cond.native arraycopyName ∈ zG) (h3 : Cond.static arraycopyName ∈ zG) (h4 : Cond.initialized "java/lang/System" ∈ zG) (hf : 1 ≤ rk) (h8 : st.length ≤ 8) (hlen : la.length = nL) (hl1 : fx_ly c1 = (100, N1)) (hl2 : fx_ly c2 = (100, N2)) (hc1 : 0 ≤ c1 ∧ c1 < n) (hc2 : 0 ≤ c2 ∧ c2 < n) (hs1 : 0 ≤ sp ∧ 0 ≤ dp ∧ 0 ≤ k) (hs2 : sp + k ≤ N1 ∧ dp + k ≤ N2) (hu : g = true → ∀ j, fx_kk 100 j = false) (kk : AW X b0 D g kc ks Q n (cpy M c1 sp c2 dp k) (pc + 3) la st) : AW X b0 D g kc ks Q n M pc la (.inl k :: .inl dp :: .inr c2 :: .inl sp :: .inr c1 :: st) := by
  intro hs hl hm H locs ls hW hS hL
  have hR0 := cx_R hC
  obtain ⟨a1, rfl⟩ : ∃ c' : Nat, c1 = c' := ⟨c1.toNat, by omega⟩
  obtain ⟨a2, rfl⟩ : ∃ c' : Nat, c2 = c' := ⟨c2.toNat, by omega⟩
  rw [List.map_cons, List.map_cons, List.map_cons, List.map_cons, List.map_cons, fx_cr hc1.1, fx_cr hc2.1, Int.toNat_natCast, Int.toNat_natCast]
  have hk : rg k := fx_S1 hs
  have hdp : rg dp := fx_S1 (fx_St hs)
  have hsp : rg sp := fx_S1 (fx_St (fx_St (fx_St hs)))
  have hn1 : a1 < n := by omega
  have hn2 : a2 < n := by omega
  have e1 := hW.2 a1 _ (fx_wl_at (b0 := b0) (cA := D.2) (M := M) hn1)
  have e2 := hW.2 a2 _ (fx_wl_at (b0 := b0) (cA := D.2) (M := M) hn2)
  rw [fx_en_i hl1] at e1
  rw [fx_en_i hl2] at e2
  have hc0 : H[b0 + a1]? = some (vp_cell (D.2 0) (N1, .inl (fun j => Int32.ofInt (M a1 j)))) := e1
  have hc1' : H[b0 + a2]? = some (vp_cell (D.2 0) (N2, .inl (fun j => Int32.ofInt (M a2 j)))) := e2
  obtain ⟨-, k0, hk0, cm0, hkk0⟩ := ((cx_k hC).2 0 _ rfl).1 N1 (fun j => .int (Int32.ofInt (M a1 j)))
  obtain ⟨-, k1, hk1, cm1, hkk1⟩ := ((cx_k hC).2 0 _ rfl).1 N2 (fun j => .int (Int32.ofInt (M a2 j)))
  intro T hT X0
  have hri : ∀ z : Int, rg z → 0 ≤ z → ((Int32.ofInt z).toNatClampNeg : Int) = z := fun z h h0 => by rw [fx_clamp h]; omega
  have q1 := hri sp hsp hs1.1
  have q2 := hri dp hdp hs1.2.1
  have q3 := hri k hk hs1.2.2
  obtain ⟨vm', X', step⟩ := X0.arraycopy (cx_x hC) (cx_o hC) (cx_t hC _ h1) (cx_t hC _ h2) (cx_t hC _ h3) (cx_t hC _ h4) (src := b0 + a1) (dst := b0 + a2) (cs := vp_cell (D.2 0) (N1, .inl (fun j => Int32.ofInt (M a1 j)))) (cd := vp_cell (D.2 0) (N2, .inl (fun j => Int32.ofInt (M a2 j)))) (srcPos := Int32.ofInt sp) (destPos := Int32.ofInt dp) (n := Int32.ofInt k) (by rw [hT]; exact hc0) (by rw [hT]; exact hc1')
    (fun _ h => by cases h) (fun _ h => by cases h) (fun h => by cases h) (fun h => by cases h) hk0 hk1 hkk0 hkk1 (by simp [refKind]) (by rw [fx_lt0 hsp]; omega) (by rw [fx_lt0 hdp]; omega) (by rw [fx_lt0 hk]; omega)
    (by rw [fx_toI hsp, fx_toI hk]; show ¬ _ > ((arrV (D.2 0) N1 (fun j => .int (Int32.ofInt (M a1 j)))).slots.size : Int); rw [arrV_size]; omega)
    (by rw [fx_toI hdp, fx_toI hk]; show ¬ _ > ((arrV (D.2 0) N2 (fun j => .int (Int32.ofInt (M a2 j)))).slots.size : Int); rw [arrV_size]; omega)
    (fun vm₁ _ i hi => by
      have e : (vp_cell (D.2 0) (N1, .inl (fun j => Int32.ofInt (M a1 j)))).slots.getD ((Int32.ofInt sp).toNatClampNeg + i) .null = .int (Int32.ofInt (M a1 ((Int32.ofInt sp).toNatClampNeg + i : Nat))) := by
        show (arrV (D.2 0) N1 (fun j => .int (Int32.ofInt (M a1 j)))).slots.getD _ _ = _
        rw [Array.getD_eq_getD_getElem?, arrV_read _ _ (by omega)]
        rfl
      refine ⟨?_, ?_⟩
      · rw [e]; rfl
      · rw [e]; exact trivial)
    (g := F0 (xm X) pc ls (.int (Int32.ofInt k) :: .int (Int32.ofInt dp) :: .ref (b0 + a2) :: .int (Int32.ofInt sp) :: .ref (b0 + a1) :: st.map (fx_co b0))) rfl (by rw [cx_ml hC, ← hlen]; exact hL.1) (rest := st.map (fx_co b0)) rfl (by rw [cx_b hC]; exact hd) (by omega) (by rw [fx_catS]; show 2 * 0 + _ + (5 + 2 + 11) ≤ _; omega)
  have ec : copied (vp_cell (D.2 0) (N1, .inl (fun j => Int32.ofInt (M a1 j)))) (vp_cell (D.2 0) (N2, .inl (fun j => Int32.ofInt (M a2 j)))) (Int32.ofInt sp) (Int32.ofInt dp) (Int32.ofInt k) = vp_cell (D.2 0) (N2, .inl (va_cpy (fun j => Int32.ofInt (M a1 j)) (fun j => Int32.ofInt (M a2 j)) (Int32.ofInt sp).toNatClampNeg (Int32.ofInt dp).toNatClampNeg (Int32.ofInt k).toNatClampNeg)) := va_copied (fun z => .int z) (D.2 0) (D.2 0) (fun j => Int32.ofInt (M a1 j)) (fun j => Int32.ofInt (M a2 j)) (by omega)
  have ef : va_cpy (fun j : Nat => Int32.ofInt (M a1 j)) (fun j : Nat => Int32.ofInt (M a2 j)) (Int32.ofInt sp).toNatClampNeg (Int32.ofInt dp).toNatClampNeg (Int32.ofInt k).toNatClampNeg = fun j : Nat => Int32.ofInt (cpy M a1 sp a2 dp k a2 j) := by
    funext j
    unfold va_cpy cpy
    by_cases h : (Int32.ofInt dp).toNatClampNeg ≤ j ∧ j < (Int32.ofInt dp).toNatClampNeg + (Int32.ofInt k).toNatClampNeg
    · rw [if_pos h, if_pos ⟨rfl, by omega, by omega⟩]
      dsimp only
      rw [show (((Int32.ofInt sp).toNatClampNeg + (j - (Int32.ofInt dp).toNatClampNeg) : Nat) : Int) = sp + ((j : Int) - dp) by omega]
    · rw [if_neg h, if_neg (by rintro ⟨-, e1, e2⟩; exact h ⟨by omega, by omega⟩)]
  rw [ec, ef] at X' step
  have hll : b0 + a2 < H.size := (Array.getElem?_eq_some_iff.mp hc1').1
  have oq : ∀ q : Nat, q ≠ b0 + a2 → (H.setIfInBounds (b0 + a2) (vp_cell (D.2 0) (N2, .inl (fun j : Nat => Int32.ofInt (cpy M a1 sp a2 dp k a2 j)))))[q]? = H[q]? := fun q hq => by simp [Array.getElem?_setIfInBounds, Ne.symm hq]
  obtain ⟨b1, -⟩ := fx_stored (M' := cpy M a1 sp a2 dp k) hW hS hn2 (H1 := H.setIfInBounds (b0 + a2) (vp_cell (D.2 0) (N2, .inl (fun j : Nat => Int32.ofInt (cpy M a1 sp a2 dp k a2 j))))) (by
    rw [fx_en_i hl2]
    show (H.setIfInBounds _ _)[b0 + a2]? = some _
    simp [Array.getElem?_setIfInBounds, hll]) (by simp) oq (fun d hd => fx_en_cpy hd) 0
  have hmm : fx_okM g (cpy M a1 sp a2 dp k) := by
    refine ⟨fun c j => ?_, fun hg c j hcj => ?_⟩
    · unfold cpy; split
      · exact hm.1 _ _
      · exact hm.1 _ _
    · unfold cpy
      rw [if_neg]
      · exact hm.2 hg c j hcj
      · rintro ⟨rfl, -⟩
        rw [hl2, hu hg j] at hcj
        cases hcj
  have hheap : ((T.setVm vm').setCell (b0 + a2) (vp_cell (D.2 0) (N2, .inl (fun j : Nat => Int32.ofInt (cpy M a1 sp a2 dp k a2 j))))).heap = H.setIfInBounds (b0 + a2) (vp_cell (D.2 0) (N2, .inl (fun j : Nat => Int32.ofInt (cpy M a1 sp a2 dp k a2 j)))) := by rw [← hT]; rfl
  obtain ⟨t, r1, r2⟩ := kk (fx_St (fx_St (fx_St (fx_St (fx_St hs))))) hl hmm _ _ ls b1 ⟨by simp; exact hS.1, fun q g1 g2 => by
      rw [oq q (by omega)]
      exact hS.2.1 q g1 g2, fun q hq => by
      rcases List.mem_append.mp hq with h | h
      · exact hS.2.2 q h
      · obtain ⟨z, -, hz⟩ := List.mem_map.mp h
        rw [← hz]
        exact Nat.le_add_right _ _⟩ hL _ hheap X'
  exact ⟨t, step t r1, r2⟩
end ROWS4
end
section
theorem fF_G_12 : fx_F R_G 12 0 0 6 := ⟨R_G, T_G, rfl, hin_G, by decide, zG_in 294 (by decide +kernel) rfl⟩
theorem fF_G_19 : fx_F R_G 19 0 1 6 := ⟨R_G, T_G, rfl, hin_G, by decide, zG_in 295 (by decide +kernel) rfl⟩
theorem fF_G_26 : fx_F R_G 26 0 2 6 := ⟨R_G, T_G, rfl, hin_G, by decide, zG_in 296 (by decide +kernel) rfl⟩
theorem fF_G_30 : fx_F R_G 30 0 3 6 := ⟨R_G, T_G, rfl, hin_G, by decide, zG_in 297 (by decide +kernel) rfl⟩
theorem fF_G_39 : fx_F R_G 39 0 4 6 := ⟨R_G, T_G, rfl, hin_G, by decide, zG_in 298 (by decide +kernel) rfl⟩
theorem fF_G_53 : fx_F R_G 53 0 5 6 := ⟨R_G, T_G, rfl, hin_G, by decide, zG_in 299 (by decide +kernel) rfl⟩
theorem fF_G_57 : fx_F R_G 57 1 4 5 := ⟨R_Sc, T_Sc, rfl, hin_Sc, by decide, zG_in 74 (by decide +kernel) rfl⟩
theorem fF_G_61 : fx_F R_G 61 2 4 5 := ⟨R_Ro, T_Ro, rfl, hin_Ro, by decide, zG_in 100 (by decide +kernel) rfl⟩
theorem fF_G_76 : fx_F R_G 76 1 0 5 := ⟨R_Sc, T_Sc, rfl, hin_Sc, by decide, zG_in 70 (by decide +kernel) rfl⟩
theorem fF_G_118 : fx_F R_G 118 3 0 4 := ⟨R_Te, T_Te, rfl, hin_Te, by decide, zG_in 120 (by decide +kernel) rfl⟩
theorem fF_G_128 : fx_F R_G 128 4 5 6 := ⟨R_Pl, T_Pl, rfl, hin_Pl, by decide, zG_in 203 (by decide +kernel) rfl⟩
theorem fF_G_142 : fx_F R_G 142 8 4 7 := ⟨R_As, T_As, rfl, hin_As, by decide, zG_in 276 (by decide +kernel) rfl⟩
theorem fF_G_145 : fx_F R_G 145 8 3 7 := ⟨R_As, T_As, rfl, hin_As, by decide, zG_in 274 (by decide +kernel) rfl⟩
theorem fF_G_148 : fx_F R_G 148 8 2 7 := ⟨R_As, T_As, rfl, hin_As, by decide, zG_in 272 (by decide +kernel) rfl⟩
theorem fF_G_157 : fx_F R_G 157 7 4 5 := ⟨R_Pa, T_Pa, rfl, hin_Pa, by decide, zG_in 257 (by decide +kernel) rfl⟩
theorem fF_As_12 : fx_F R_As 12 8 2 7 := ⟨R_As, T_As, rfl, hin_As, by decide, zG_in 271 (by decide +kernel) rfl⟩
theorem fF_As_18 : fx_F R_As 18 8 3 7 := ⟨R_As, T_As, rfl, hin_As, by decide, zG_in 273 (by decide +kernel) rfl⟩
theorem fF_As_22 : fx_F R_As 22 8 0 7 := ⟨R_As, T_As, rfl, hin_As, by decide, zG_in 269 (by decide +kernel) rfl⟩
theorem fF_As_26 : fx_F R_As 26 8 1 7 := ⟨R_As, T_As, rfl, hin_As, by decide, zG_in 270 (by decide +kernel) rfl⟩
theorem fF_As_30 : fx_F R_As 30 8 4 7 := ⟨R_As, T_As, rfl, hin_As, by decide, zG_in 275 (by decide +kernel) rfl⟩
theorem fF_As_40 : fx_F R_As 40 8 5 7 := ⟨R_As, T_As, rfl, hin_As, by decide, zG_in 277 (by decide +kernel) rfl⟩
theorem fF_As_43 : fx_F R_As 43 8 6 7 := ⟨R_As, T_As, rfl, hin_As, by decide, zG_in 278 (by decide +kernel) rfl⟩
theorem fF_As_58 : fx_F R_As 58 5 2 11 := ⟨R_St, T_St, rfl, hin_St, by decide, zG_in 157 (by decide +kernel) rfl⟩
theorem fF_As_72 : fx_F R_As 72 5 9 11 := ⟨R_St, T_St, rfl, hin_St, by decide, zG_in 170 (by decide +kernel) rfl⟩
theorem fF_As_91 : fx_F R_As 91 6 4 5 := ⟨R_Co, T_Co, rfl, hin_Co, by decide, zG_in 230 (by decide +kernel) rfl⟩
theorem fF_As_95 : fx_F R_As 95 5 1 11 := ⟨R_St, T_St, rfl, hin_St, by decide, zG_in 155 (by decide +kernel) rfl⟩
theorem fF_As_98 : fx_F R_As 98 5 7 11 := ⟨R_St, T_St, rfl, hin_St, by decide, zG_in 166 (by decide +kernel) rfl⟩
theorem fF_As_111 : fx_F R_As 111 5 3 11 := ⟨R_St, T_St, rfl, hin_St, by decide, zG_in 161 (by decide +kernel) rfl⟩
theorem fF_As_129 : fx_F R_As 129 5 8 11 := ⟨R_St, T_St, rfl, hin_St, by decide, zG_in 169 (by decide +kernel) rfl⟩
theorem fF_Co_9 : fx_F R_Co 9 6 0 5 := ⟨R_Co, T_Co, rfl, hin_Co, by decide, zG_in 225 (by decide +kernel) rfl⟩
theorem fF_Co_15 : fx_F R_Co 15 6 1 5 := ⟨R_Co, T_Co, rfl, hin_Co, by decide, zG_in 226 (by decide +kernel) rfl⟩
theorem fF_Co_19 : fx_F R_Co 19 6 2 5 := ⟨R_Co, T_Co, rfl, hin_Co, by decide, zG_in 227 (by decide +kernel) rfl⟩
theorem fF_Co_23 : fx_F R_Co 23 6 3 5 := ⟨R_Co, T_Co, rfl, hin_Co, by decide, zG_in 228 (by decide +kernel) rfl⟩
theorem fF_Co_26 : fx_F R_Co 26 6 4 5 := ⟨R_Co, T_Co, rfl, hin_Co, by decide, zG_in 229 (by decide +kernel) rfl⟩
theorem fF_Co_30 : fx_F R_Co 30 5 0 11 := ⟨R_St, T_St, rfl, hin_St, by decide, zG_in 150 (by decide +kernel) rfl⟩
theorem fF_Co_36 : fx_F R_Co 36 5 6 11 := ⟨R_St, T_St, rfl, hin_St, by decide, zG_in 164 (by decide +kernel) rfl⟩
theorem fF_Co_39 : fx_F R_Co 39 4 2 6 := ⟨R_Pl, T_Pl, rfl, hin_Pl, by decide, zG_in 199 (by decide +kernel) rfl⟩
theorem fF_Co_63 : fx_F R_Co 63 5 10 11 := ⟨R_St, T_St, rfl, hin_St, by decide, zG_in 172 (by decide +kernel) rfl⟩
theorem fF_Co_66 : fx_F R_Co 66 5 1 11 := ⟨R_St, T_St, rfl, hin_St, by decide, zG_in 154 (by decide +kernel) rfl⟩
theorem fF_Co_69 : fx_F R_Co 69 5 2 11 := ⟨R_St, T_St, rfl, hin_St, by decide, zG_in 156 (by decide +kernel) rfl⟩
theorem fF_Co_72 : fx_F R_Co 72 5 3 11 := ⟨R_St, T_St, rfl, hin_St, by decide, zG_in 159 (by decide +kernel) rfl⟩
theorem fF_Co_86 : fx_F R_Co 86 5 9 11 := ⟨R_St, T_St, rfl, hin_St, by decide, zG_in 171 (by decide +kernel) rfl⟩
theorem fF_Pa_9 : fx_F R_Pa 9 7 0 5 := ⟨R_Pa, T_Pa, rfl, hin_Pa, by decide, zG_in 252 (by decide +kernel) rfl⟩
theorem fF_Pa_15 : fx_F R_Pa 15 7 1 5 := ⟨R_Pa, T_Pa, rfl, hin_Pa, by decide, zG_in 253 (by decide +kernel) rfl⟩
theorem fF_Pa_18 : fx_F R_Pa 18 7 2 5 := ⟨R_Pa, T_Pa, rfl, hin_Pa, by decide, zG_in 254 (by decide +kernel) rfl⟩
theorem fF_Pa_21 : fx_F R_Pa 21 7 3 5 := ⟨R_Pa, T_Pa, rfl, hin_Pa, by decide, zG_in 255 (by decide +kernel) rfl⟩
theorem fF_Pa_25 : fx_F R_Pa 25 7 4 5 := ⟨R_Pa, T_Pa, rfl, hin_Pa, by decide, zG_in 256 (by decide +kernel) rfl⟩
theorem fF_Pl_11 : fx_F R_Pl 11 4 2 6 := ⟨R_Pl, T_Pl, rfl, hin_Pl, by decide, zG_in 198 (by decide +kernel) rfl⟩
theorem fF_Pl_17 : fx_F R_Pl 17 4 3 6 := ⟨R_Pl, T_Pl, rfl, hin_Pl, by decide, zG_in 200 (by decide +kernel) rfl⟩
theorem fF_Pl_25 : fx_F R_Pl 25 4 0 6 := ⟨R_Pl, T_Pl, rfl, hin_Pl, by decide, zG_in 196 (by decide +kernel) rfl⟩
theorem fF_Pl_29 : fx_F R_Pl 29 4 1 6 := ⟨R_Pl, T_Pl, rfl, hin_Pl, by decide, zG_in 197 (by decide +kernel) rfl⟩
theorem fF_Pl_36 : fx_F R_Pl 36 5 1 11 := ⟨R_St, T_St, rfl, hin_St, by decide, zG_in 152 (by decide +kernel) rfl⟩
theorem fF_Pl_39 : fx_F R_Pl 39 5 4 11 := ⟨R_St, T_St, rfl, hin_St, by decide, zG_in 162 (by decide +kernel) rfl⟩
theorem fF_Pl_49 : fx_F R_Pl 49 5 5 11 := ⟨R_St, T_St, rfl, hin_St, by decide, zG_in 163 (by decide +kernel) rfl⟩
theorem fF_Pl_52 : fx_F R_Pl 52 4 4 6 := ⟨R_Pl, T_Pl, rfl, hin_Pl, by decide, zG_in 201 (by decide +kernel) rfl⟩
theorem fF_Pl_59 : fx_F R_Pl 59 3 0 4 := ⟨R_Te, T_Te, rfl, hin_Te, by decide, zG_in 119 (by decide +kernel) rfl⟩
theorem fF_Pl_75 : fx_F R_Pl 75 5 2 11 := ⟨R_St, T_St, rfl, hin_St, by decide, zG_in 158 (by decide +kernel) rfl⟩
theorem fF_Pl_78 : fx_F R_Pl 78 5 0 11 := ⟨R_St, T_St, rfl, hin_St, by decide, zG_in 151 (by decide +kernel) rfl⟩
theorem fF_Pl_87 : fx_F R_Pl 87 3 1 4 := ⟨R_Te, T_Te, rfl, hin_Te, by decide, zG_in 122 (by decide +kernel) rfl⟩
theorem fF_Pl_90 : fx_F R_Pl 90 3 2 4 := ⟨R_Te, T_Te, rfl, hin_Te, by decide, zG_in 124 (by decide +kernel) rfl⟩
theorem fF_Pl_93 : fx_F R_Pl 93 3 3 4 := ⟨R_Te, T_Te, rfl, hin_Te, by decide, zG_in 126 (by decide +kernel) rfl⟩
theorem fF_Pl_96 : fx_F R_Pl 96 5 3 11 := ⟨R_St, T_St, rfl, hin_St, by decide, zG_in 160 (by decide +kernel) rfl⟩
theorem fF_Pl_111 : fx_F R_Pl 111 5 7 11 := ⟨R_St, T_St, rfl, hin_St, by decide, zG_in 167 (by decide +kernel) rfl⟩
theorem fF_Ro_9 : fx_F R_Ro 9 2 0 5 := ⟨R_Ro, T_Ro, rfl, hin_Ro, by decide, zG_in 95 (by decide +kernel) rfl⟩
theorem fF_Ro_15 : fx_F R_Ro 15 2 1 5 := ⟨R_Ro, T_Ro, rfl, hin_Ro, by decide, zG_in 96 (by decide +kernel) rfl⟩
theorem fF_Ro_18 : fx_F R_Ro 18 2 2 5 := ⟨R_Ro, T_Ro, rfl, hin_Ro, by decide, zG_in 97 (by decide +kernel) rfl⟩
theorem fF_Ro_21 : fx_F R_Ro 21 2 3 5 := ⟨R_Ro, T_Ro, rfl, hin_Ro, by decide, zG_in 98 (by decide +kernel) rfl⟩
theorem fF_Ro_24 : fx_F R_Ro 24 2 4 5 := ⟨R_Ro, T_Ro, rfl, hin_Ro, by decide, zG_in 99 (by decide +kernel) rfl⟩
theorem fF_Sc_9 : fx_F R_Sc 9 1 0 5 := ⟨R_Sc, T_Sc, rfl, hin_Sc, by decide, zG_in 69 (by decide +kernel) rfl⟩
theorem fF_Sc_15 : fx_F R_Sc 15 1 1 5 := ⟨R_Sc, T_Sc, rfl, hin_Sc, by decide, zG_in 71 (by decide +kernel) rfl⟩
theorem fF_Sc_18 : fx_F R_Sc 18 1 2 5 := ⟨R_Sc, T_Sc, rfl, hin_Sc, by decide, zG_in 72 (by decide +kernel) rfl⟩
theorem fF_Sc_21 : fx_F R_Sc 21 1 3 5 := ⟨R_Sc, T_Sc, rfl, hin_Sc, by decide, zG_in 73 (by decide +kernel) rfl⟩
theorem fF_Sc_25 : fx_F R_Sc 25 1 4 5 := ⟨R_Sc, T_Sc, rfl, hin_Sc, by decide, zG_in 75 (by decide +kernel) rfl⟩
theorem fF_St_15 : fx_F R_St 15 5 1 11 := ⟨R_St, T_St, rfl, hin_St, by decide, zG_in 153 (by decide +kernel) rfl⟩
theorem fF_Te_9 : fx_F R_Te 9 3 0 4 := ⟨R_Te, T_Te, rfl, hin_Te, by decide, zG_in 118 (by decide +kernel) rfl⟩
theorem fF_Te_15 : fx_F R_Te 15 3 1 4 := ⟨R_Te, T_Te, rfl, hin_Te, by decide, zG_in 121 (by decide +kernel) rfl⟩
theorem fF_Te_18 : fx_F R_Te 18 3 2 4 := ⟨R_Te, T_Te, rfl, hin_Te, by decide, zG_in 123 (by decide +kernel) rfl⟩
theorem fF_Te_21 : fx_F R_Te 21 3 3 4 := ⟨R_Te, T_Te, rfl, hin_Te, by decide, zG_in 125 (by decide +kernel) rfl⟩
theorem fF_Mo_7 : fx_F R_Mo 7 9 1 36 := ⟨R_Mo, T_Mo, rfl, hin_Mo, by decide, zG_in 605 (by decide +kernel) rfl⟩
theorem fF_Mo_13 : fx_F R_Mo 13 9 2 36 := ⟨R_Mo, T_Mo, rfl, hin_Mo, by decide, zG_in 606 (by decide +kernel) rfl⟩
theorem fF_Mo_16 : fx_F R_Mo 16 9 4 36 := ⟨R_Mo, T_Mo, rfl, hin_Mo, by decide, zG_in 608 (by decide +kernel) rfl⟩
theorem fF_Mo_19 : fx_F R_Mo 19 9 5 36 := ⟨R_Mo, T_Mo, rfl, hin_Mo, by decide, zG_in 609 (by decide +kernel) rfl⟩
theorem fF_Mo_22 : fx_F R_Mo 22 9 6 36 := ⟨R_Mo, T_Mo, rfl, hin_Mo, by decide, zG_in 610 (by decide +kernel) rfl⟩
theorem fF_Mo_25 : fx_F R_Mo 25 9 7 36 := ⟨R_Mo, T_Mo, rfl, hin_Mo, by decide, zG_in 611 (by decide +kernel) rfl⟩
theorem fF_Mo_28 : fx_F R_Mo 28 9 8 36 := ⟨R_Mo, T_Mo, rfl, hin_Mo, by decide, zG_in 612 (by decide +kernel) rfl⟩
theorem fF_Mo_31 : fx_F R_Mo 31 9 9 36 := ⟨R_Mo, T_Mo, rfl, hin_Mo, by decide, zG_in 613 (by decide +kernel) rfl⟩
theorem fF_Mo_34 : fx_F R_Mo 34 9 10 36 := ⟨R_Mo, T_Mo, rfl, hin_Mo, by decide, zG_in 614 (by decide +kernel) rfl⟩
theorem fF_Mo_37 : fx_F R_Mo 37 9 11 36 := ⟨R_Mo, T_Mo, rfl, hin_Mo, by decide, zG_in 615 (by decide +kernel) rfl⟩
theorem fF_Mo_40 : fx_F R_Mo 40 9 12 36 := ⟨R_Mo, T_Mo, rfl, hin_Mo, by decide, zG_in 616 (by decide +kernel) rfl⟩
theorem fF_Mo_44 : fx_F R_Mo 44 9 14 36 := ⟨R_Mo, T_Mo, rfl, hin_Mo, by decide, zG_in 618 (by decide +kernel) rfl⟩
theorem fF_Mo_47 : fx_F R_Mo 47 9 15 36 := ⟨R_Mo, T_Mo, rfl, hin_Mo, by decide, zG_in 619 (by decide +kernel) rfl⟩
theorem fF_Mo_50 : fx_F R_Mo 50 9 16 36 := ⟨R_Mo, T_Mo, rfl, hin_Mo, by decide, zG_in 620 (by decide +kernel) rfl⟩
theorem fF_Mo_54 : fx_F R_Mo 54 9 18 36 := ⟨R_Mo, T_Mo, rfl, hin_Mo, by decide, zG_in 622 (by decide +kernel) rfl⟩
theorem fF_Mo_57 : fx_F R_Mo 57 9 19 36 := ⟨R_Mo, T_Mo, rfl, hin_Mo, by decide, zG_in 623 (by decide +kernel) rfl⟩
theorem fF_Mo_60 : fx_F R_Mo 60 9 20 36 := ⟨R_Mo, T_Mo, rfl, hin_Mo, by decide, zG_in 624 (by decide +kernel) rfl⟩
theorem fF_Mo_63 : fx_F R_Mo 63 9 21 36 := ⟨R_Mo, T_Mo, rfl, hin_Mo, by decide, zG_in 625 (by decide +kernel) rfl⟩
theorem fF_Mo_66 : fx_F R_Mo 66 9 22 36 := ⟨R_Mo, T_Mo, rfl, hin_Mo, by decide, zG_in 626 (by decide +kernel) rfl⟩
theorem fF_Mo_69 : fx_F R_Mo 69 9 23 36 := ⟨R_Mo, T_Mo, rfl, hin_Mo, by decide, zG_in 627 (by decide +kernel) rfl⟩
theorem fF_Mo_72 : fx_F R_Mo 72 9 24 36 := ⟨R_Mo, T_Mo, rfl, hin_Mo, by decide, zG_in 628 (by decide +kernel) rfl⟩
theorem fF_Mo_75 : fx_F R_Mo 75 9 25 36 := ⟨R_Mo, T_Mo, rfl, hin_Mo, by decide, zG_in 629 (by decide +kernel) rfl⟩
theorem fF_Mo_78 : fx_F R_Mo 78 9 26 36 := ⟨R_Mo, T_Mo, rfl, hin_Mo, by decide, zG_in 630 (by decide +kernel) rfl⟩
theorem fF_Mo_81 : fx_F R_Mo 81 9 27 36 := ⟨R_Mo, T_Mo, rfl, hin_Mo, by decide, zG_in 631 (by decide +kernel) rfl⟩
theorem fF_Mo_84 : fx_F R_Mo 84 9 28 36 := ⟨R_Mo, T_Mo, rfl, hin_Mo, by decide, zG_in 632 (by decide +kernel) rfl⟩
theorem fF_Mo_87 : fx_F R_Mo 87 9 29 36 := ⟨R_Mo, T_Mo, rfl, hin_Mo, by decide, zG_in 633 (by decide +kernel) rfl⟩
theorem fF_Mo_90 : fx_F R_Mo 90 9 32 36 := ⟨R_Mo, T_Mo, rfl, hin_Mo, by decide, zG_in 636 (by decide +kernel) rfl⟩
theorem fF_Mo_93 : fx_F R_Mo 93 9 34 36 := ⟨R_Mo, T_Mo, rfl, hin_Mo, by decide, zG_in 638 (by decide +kernel) rfl⟩
theorem fF_Mo_96 : fx_F R_Mo 96 9 35 36 := ⟨R_Mo, T_Mo, rfl, hin_Mo, by decide, zG_in 639 (by decide +kernel) rfl⟩
theorem fF_Mo_99 : fx_F R_Mo 99 9 0 36 := ⟨R_Mo, T_Mo, rfl, hin_Mo, by decide, zG_in 604 (by decide +kernel) rfl⟩
theorem fF_Mo_102 : fx_F R_Mo 102 9 3 36 := ⟨R_Mo, T_Mo, rfl, hin_Mo, by decide, zG_in 607 (by decide +kernel) rfl⟩
theorem fF_Mo_130 : fx_F R_Mo 130 9 13 36 := ⟨R_Mo, T_Mo, rfl, hin_Mo, by decide, zG_in 617 (by decide +kernel) rfl⟩
theorem fF_Mo_157 : fx_F R_Mo 157 9 17 36 := ⟨R_Mo, T_Mo, rfl, hin_Mo, by decide, zG_in 621 (by decide +kernel) rfl⟩
theorem fF_Mo_160 : fx_F R_Mo 160 9 31 36 := ⟨R_Mo, T_Mo, rfl, hin_Mo, by decide, zG_in 635 (by decide +kernel) rfl⟩
theorem fF_Mo_169 : fx_F R_Mo 169 9 30 36 := ⟨R_Mo, T_Mo, rfl, hin_Mo, by decide, zG_in 634 (by decide +kernel) rfl⟩
theorem fF_Mo_175 : fx_F R_Mo 175 9 33 36 := ⟨R_Mo, T_Mo, rfl, hin_Mo, by decide, zG_in 637 (by decide +kernel) rfl⟩
theorem fP_G_12 : fx_P R_G 12 0 0 6 (.object "QueryGraph$Schema") true := ⟨R_G, T_G, ty_G, rfl, hin_G, by decide, zG_in 294 (by decide +kernel) rfl, tyok_G, nm_G, rfl, rfl, rfl⟩
theorem fP_G_19 : fx_P R_G 19 0 1 6 (.object "QueryGraph$Rows") true := ⟨R_G, T_G, ty_G, rfl, hin_G, by decide, zG_in 295 (by decide +kernel) rfl, tyok_G, nm_G, rfl, rfl, rfl⟩
theorem fP_G_26 : fx_P R_G 26 0 2 6 (.object "QueryGraph$Texts") true := ⟨R_G, T_G, ty_G, rfl, hin_G, by decide, zG_in 296 (by decide +kernel) rfl, tyok_G, nm_G, rfl, rfl, rfl⟩
theorem fP_G_30 : fx_P R_G 30 0 3 6 (.array .int) true := ⟨R_G, T_G, ty_G, rfl, hin_G, by decide, zG_in 297 (by decide +kernel) rfl, tyok_G, nm_G, rfl, rfl, rfl⟩
theorem fP_G_39 : fx_P R_G 39 0 4 6 (.object "QueryGraph$Plan") true := ⟨R_G, T_G, ty_G, rfl, hin_G, by decide, zG_in 298 (by decide +kernel) rfl, tyok_G, nm_G, rfl, rfl, rfl⟩
theorem fP_G_53 : fx_P R_G 53 0 5 6 (.object "QueryGraph$Asking") true := ⟨R_G, T_G, ty_G, rfl, hin_G, by decide, zG_in 299 (by decide +kernel) rfl, tyok_G, nm_G, rfl, rfl, rfl⟩
theorem fP_As_12 : fx_P R_As 12 8 2 7 (.object "QueryGraph$Places") true := ⟨R_As, T_As, ty_As, rfl, hin_As, by decide, zG_in 271 (by decide +kernel) rfl, tyok_As, nm_As, rfl, rfl, rfl⟩
theorem fP_As_18 : fx_P R_As 18 8 3 7 (.array .int) true := ⟨R_As, T_As, ty_As, rfl, hin_As, by decide, zG_in 273 (by decide +kernel) rfl, tyok_As, nm_As, rfl, rfl, rfl⟩
theorem fP_As_22 : fx_P R_As 22 8 0 7 (.object "QueryGraph$Rows") true := ⟨R_As, T_As, ty_As, rfl, hin_As, by decide, zG_in 269 (by decide +kernel) rfl, tyok_As, nm_As, rfl, rfl, rfl⟩
theorem fP_As_26 : fx_P R_As 26 8 1 7 (.object "QueryGraph$Collector") true := ⟨R_As, T_As, ty_As, rfl, hin_As, by decide, zG_in 270 (by decide +kernel) rfl, tyok_As, nm_As, rfl, rfl, rfl⟩
theorem fP_As_30 : fx_P R_As 30 8 4 7 .int false := ⟨R_As, T_As, ty_As, rfl, hin_As, by decide, zG_in 275 (by decide +kernel) rfl, tyok_As, nm_As, rfl, rfl, rfl⟩
theorem fP_As_40 : fx_P R_As 40 8 5 7 .int false := ⟨R_As, T_As, ty_As, rfl, hin_As, by decide, zG_in 277 (by decide +kernel) rfl, tyok_As, nm_As, rfl, rfl, rfl⟩
theorem fP_As_43 : fx_P R_As 43 8 6 7 .int false := ⟨R_As, T_As, ty_As, rfl, hin_As, by decide, zG_in 278 (by decide +kernel) rfl, tyok_As, nm_As, rfl, rfl, rfl⟩
theorem fP_Co_9 : fx_P R_Co 9 6 0 5 (.object "QueryGraph$Plan") true := ⟨R_Co, T_Co, ty_Co, rfl, hin_Co, by decide, zG_in 225 (by decide +kernel) rfl, tyok_Co, nm_Co, rfl, rfl, rfl⟩
theorem fP_Co_15 : fx_P R_Co 15 6 1 5 (.array .int) true := ⟨R_Co, T_Co, ty_Co, rfl, hin_Co, by decide, zG_in 226 (by decide +kernel) rfl, tyok_Co, nm_Co, rfl, rfl, rfl⟩
theorem fP_Co_19 : fx_P R_Co 19 6 2 5 (.object "QueryGraph$Step") false := ⟨R_Co, T_Co, ty_Co, rfl, hin_Co, by decide, zG_in 227 (by decide +kernel) rfl, tyok_Co, nm_Co, rfl, rfl, rfl⟩
theorem fP_Co_23 : fx_P R_Co 23 6 3 5 (.object "QueryGraph$Step") false := ⟨R_Co, T_Co, ty_Co, rfl, hin_Co, by decide, zG_in 228 (by decide +kernel) rfl, tyok_Co, nm_Co, rfl, rfl, rfl⟩
theorem fP_Co_26 : fx_P R_Co 26 6 4 5 .boolean false := ⟨R_Co, T_Co, ty_Co, rfl, hin_Co, by decide, zG_in 229 (by decide +kernel) rfl, tyok_Co, nm_Co, rfl, rfl, rfl⟩
theorem fP_Co_63 : fx_P R_Co 63 5 10 11 (.object "QueryGraph$Step") false := ⟨R_St, T_St, ty_St, rfl, hin_St, by decide, zG_in 172 (by decide +kernel) rfl, tyok_St, nm_St, rfl, rfl, rfl⟩
theorem fP_Co_86 : fx_P R_Co 86 5 9 11 (.object "QueryGraph$Step") false := ⟨R_St, T_St, ty_St, rfl, hin_St, by decide, zG_in 171 (by decide +kernel) rfl, tyok_St, nm_St, rfl, rfl, rfl⟩
theorem fP_Pa_9 : fx_P R_Pa 9 7 0 5 (.array .int) true := ⟨R_Pa, T_Pa, ty_Pa, rfl, hin_Pa, by decide, zG_in 252 (by decide +kernel) rfl, tyok_Pa, nm_Pa, rfl, rfl, rfl⟩
theorem fP_Pa_15 : fx_P R_Pa 15 7 1 5 (.array .int) true := ⟨R_Pa, T_Pa, ty_Pa, rfl, hin_Pa, by decide, zG_in 253 (by decide +kernel) rfl, tyok_Pa, nm_Pa, rfl, rfl, rfl⟩
theorem fP_Pa_18 : fx_P R_Pa 18 7 2 5 (.array .int) true := ⟨R_Pa, T_Pa, ty_Pa, rfl, hin_Pa, by decide, zG_in 254 (by decide +kernel) rfl, tyok_Pa, nm_Pa, rfl, rfl, rfl⟩
theorem fP_Pa_21 : fx_P R_Pa 21 7 3 5 .int false := ⟨R_Pa, T_Pa, ty_Pa, rfl, hin_Pa, by decide, zG_in 255 (by decide +kernel) rfl, tyok_Pa, nm_Pa, rfl, rfl, rfl⟩
theorem fP_Pa_25 : fx_P R_Pa 25 7 4 5 .int false := ⟨R_Pa, T_Pa, ty_Pa, rfl, hin_Pa, by decide, zG_in 256 (by decide +kernel) rfl, tyok_Pa, nm_Pa, rfl, rfl, rfl⟩
theorem fP_Pl_11 : fx_P R_Pl 11 4 2 6 (.array (.object "QueryGraph$Step")) true := ⟨R_Pl, T_Pl, ty_Pl, rfl, hin_Pl, by decide, zG_in 198 (by decide +kernel) rfl, tyok_Pl, nm_Pl, rfl, rfl, rfl⟩
theorem fP_Pl_17 : fx_P R_Pl 17 4 3 6 (.array .boolean) true := ⟨R_Pl, T_Pl, ty_Pl, rfl, hin_Pl, by decide, zG_in 200 (by decide +kernel) rfl, tyok_Pl, nm_Pl, rfl, rfl, rfl⟩
theorem fP_Pl_21 : fx_P R_Pl 21 4 5 6 .int false := ⟨R_Pl, T_Pl, ty_Pl, rfl, hin_Pl, by decide, zG_in 202 (by decide +kernel) rfl, tyok_Pl, nm_Pl, rfl, rfl, rfl⟩
theorem fP_Pl_25 : fx_P R_Pl 25 4 0 6 (.object "QueryGraph$Schema") true := ⟨R_Pl, T_Pl, ty_Pl, rfl, hin_Pl, by decide, zG_in 196 (by decide +kernel) rfl, tyok_Pl, nm_Pl, rfl, rfl, rfl⟩
theorem fP_Pl_29 : fx_P R_Pl 29 4 1 6 (.object "QueryGraph$Texts") true := ⟨R_Pl, T_Pl, ty_Pl, rfl, hin_Pl, by decide, zG_in 197 (by decide +kernel) rfl, tyok_Pl, nm_Pl, rfl, rfl, rfl⟩
theorem fP_Pl_36 : fx_P R_Pl 36 5 1 11 .int false := ⟨R_St, T_St, ty_St, rfl, hin_St, by decide, zG_in 152 (by decide +kernel) rfl, tyok_St, nm_St, rfl, rfl, rfl⟩
theorem fP_Pl_39 : fx_P R_Pl 39 5 4 11 (.object "QueryGraph$Step") false := ⟨R_St, T_St, ty_St, rfl, hin_St, by decide, zG_in 162 (by decide +kernel) rfl, tyok_St, nm_St, rfl, rfl, rfl⟩
theorem fP_Pl_49 : fx_P R_Pl 49 5 5 11 .int false := ⟨R_St, T_St, ty_St, rfl, hin_St, by decide, zG_in 163 (by decide +kernel) rfl, tyok_St, nm_St, rfl, rfl, rfl⟩
theorem fP_Pl_52 : fx_P R_Pl 52 4 4 6 .int false := ⟨R_Pl, T_Pl, ty_Pl, rfl, hin_Pl, by decide, zG_in 201 (by decide +kernel) rfl, tyok_Pl, nm_Pl, rfl, rfl, rfl⟩
theorem fP_Pl_75 : fx_P R_Pl 75 5 2 11 .int false := ⟨R_St, T_St, ty_St, rfl, hin_St, by decide, zG_in 158 (by decide +kernel) rfl, tyok_St, nm_St, rfl, rfl, rfl⟩
theorem fP_Pl_81 : fx_P R_Pl 81 5 6 11 .int false := ⟨R_St, T_St, ty_St, rfl, hin_St, by decide, zG_in 165 (by decide +kernel) rfl, tyok_St, nm_St, rfl, rfl, rfl⟩
theorem fP_Pl_96 : fx_P R_Pl 96 5 3 11 .int false := ⟨R_St, T_St, ty_St, rfl, hin_St, by decide, zG_in 160 (by decide +kernel) rfl, tyok_St, nm_St, rfl, rfl, rfl⟩
theorem fP_Pl_111 : fx_P R_Pl 111 5 7 11 .int false := ⟨R_St, T_St, ty_St, rfl, hin_St, by decide, zG_in 167 (by decide +kernel) rfl, tyok_St, nm_St, rfl, rfl, rfl⟩
theorem fP_Pl_118 : fx_P R_Pl 118 5 8 11 .boolean false := ⟨R_St, T_St, ty_St, rfl, hin_St, by decide, zG_in 168 (by decide +kernel) rfl, tyok_St, nm_St, rfl, rfl, rfl⟩
theorem fP_Ro_9 : fx_P R_Ro 9 2 0 5 (.array .int) true := ⟨R_Ro, T_Ro, ty_Ro, rfl, hin_Ro, by decide, zG_in 95 (by decide +kernel) rfl, tyok_Ro, nm_Ro, rfl, rfl, rfl⟩
theorem fP_Ro_15 : fx_P R_Ro 15 2 1 5 (.array .int) true := ⟨R_Ro, T_Ro, ty_Ro, rfl, hin_Ro, by decide, zG_in 96 (by decide +kernel) rfl, tyok_Ro, nm_Ro, rfl, rfl, rfl⟩
theorem fP_Ro_18 : fx_P R_Ro 18 2 2 5 (.array .int) true := ⟨R_Ro, T_Ro, ty_Ro, rfl, hin_Ro, by decide, zG_in 97 (by decide +kernel) rfl, tyok_Ro, nm_Ro, rfl, rfl, rfl⟩
theorem fP_Ro_21 : fx_P R_Ro 21 2 3 5 (.array .int) true := ⟨R_Ro, T_Ro, ty_Ro, rfl, hin_Ro, by decide, zG_in 98 (by decide +kernel) rfl, tyok_Ro, nm_Ro, rfl, rfl, rfl⟩
theorem fP_Ro_24 : fx_P R_Ro 24 2 4 5 .int false := ⟨R_Ro, T_Ro, ty_Ro, rfl, hin_Ro, by decide, zG_in 99 (by decide +kernel) rfl, tyok_Ro, nm_Ro, rfl, rfl, rfl⟩
theorem fP_Sc_9 : fx_P R_Sc 9 1 0 5 (.array .int) true := ⟨R_Sc, T_Sc, ty_Sc, rfl, hin_Sc, by decide, zG_in 69 (by decide +kernel) rfl, tyok_Sc, nm_Sc, rfl, rfl, rfl⟩
theorem fP_Sc_15 : fx_P R_Sc 15 1 1 5 (.array .int) true := ⟨R_Sc, T_Sc, ty_Sc, rfl, hin_Sc, by decide, zG_in 71 (by decide +kernel) rfl, tyok_Sc, nm_Sc, rfl, rfl, rfl⟩
theorem fP_Sc_18 : fx_P R_Sc 18 1 2 5 (.array .int) true := ⟨R_Sc, T_Sc, ty_Sc, rfl, hin_Sc, by decide, zG_in 72 (by decide +kernel) rfl, tyok_Sc, nm_Sc, rfl, rfl, rfl⟩
theorem fP_Sc_21 : fx_P R_Sc 21 1 3 5 (.array .boolean) true := ⟨R_Sc, T_Sc, ty_Sc, rfl, hin_Sc, by decide, zG_in 73 (by decide +kernel) rfl, tyok_Sc, nm_Sc, rfl, rfl, rfl⟩
theorem fP_Sc_25 : fx_P R_Sc 25 1 4 5 .int false := ⟨R_Sc, T_Sc, ty_Sc, rfl, hin_Sc, by decide, zG_in 75 (by decide +kernel) rfl, tyok_Sc, nm_Sc, rfl, rfl, rfl⟩
theorem fP_St_9 : fx_P R_St 9 5 0 11 .int true := ⟨R_St, T_St, ty_St, rfl, hin_St, by decide, zG_in 149 (by decide +kernel) rfl, tyok_St, nm_St, rfl, rfl, rfl⟩
theorem fP_Te_9 : fx_P R_Te 9 3 0 4 (.array .int) true := ⟨R_Te, T_Te, ty_Te, rfl, hin_Te, by decide, zG_in 118 (by decide +kernel) rfl, tyok_Te, nm_Te, rfl, rfl, rfl⟩
theorem fP_Te_15 : fx_P R_Te 15 3 1 4 (.array .int) true := ⟨R_Te, T_Te, ty_Te, rfl, hin_Te, by decide, zG_in 121 (by decide +kernel) rfl, tyok_Te, nm_Te, rfl, rfl, rfl⟩
theorem fP_Te_18 : fx_P R_Te 18 3 2 4 (.array .int) true := ⟨R_Te, T_Te, ty_Te, rfl, hin_Te, by decide, zG_in 123 (by decide +kernel) rfl, tyok_Te, nm_Te, rfl, rfl, rfl⟩
theorem fP_Te_21 : fx_P R_Te 21 3 3 4 (.array .int) true := ⟨R_Te, T_Te, ty_Te, rfl, hin_Te, by decide, zG_in 125 (by decide +kernel) rfl, tyok_Te, nm_Te, rfl, rfl, rfl⟩
theorem fP_Mo_7 : fx_P R_Mo 7 9 1 36 (.array .int) true := ⟨R_Mo, T_Mo, ty_Mo, rfl, hin_Mo, by decide, zG_in 605 (by decide +kernel) rfl, tyok_Mo, nm_Mo, rfl, rfl, rfl⟩
theorem fP_Mo_13 : fx_P R_Mo 13 9 2 36 (.array .int) true := ⟨R_Mo, T_Mo, ty_Mo, rfl, hin_Mo, by decide, zG_in 606 (by decide +kernel) rfl, tyok_Mo, nm_Mo, rfl, rfl, rfl⟩
theorem fP_Mo_16 : fx_P R_Mo 16 9 4 36 (.array .int) true := ⟨R_Mo, T_Mo, ty_Mo, rfl, hin_Mo, by decide, zG_in 608 (by decide +kernel) rfl, tyok_Mo, nm_Mo, rfl, rfl, rfl⟩
theorem fP_Mo_19 : fx_P R_Mo 19 9 5 36 (.array .int) true := ⟨R_Mo, T_Mo, ty_Mo, rfl, hin_Mo, by decide, zG_in 609 (by decide +kernel) rfl, tyok_Mo, nm_Mo, rfl, rfl, rfl⟩
theorem fP_Mo_22 : fx_P R_Mo 22 9 6 36 (.array .int) true := ⟨R_Mo, T_Mo, ty_Mo, rfl, hin_Mo, by decide, zG_in 610 (by decide +kernel) rfl, tyok_Mo, nm_Mo, rfl, rfl, rfl⟩
theorem fP_Mo_25 : fx_P R_Mo 25 9 7 36 (.array .int) true := ⟨R_Mo, T_Mo, ty_Mo, rfl, hin_Mo, by decide, zG_in 611 (by decide +kernel) rfl, tyok_Mo, nm_Mo, rfl, rfl, rfl⟩
theorem fP_Mo_28 : fx_P R_Mo 28 9 8 36 (.array .int) true := ⟨R_Mo, T_Mo, ty_Mo, rfl, hin_Mo, by decide, zG_in 612 (by decide +kernel) rfl, tyok_Mo, nm_Mo, rfl, rfl, rfl⟩
theorem fP_Mo_31 : fx_P R_Mo 31 9 9 36 (.array .int) true := ⟨R_Mo, T_Mo, ty_Mo, rfl, hin_Mo, by decide, zG_in 613 (by decide +kernel) rfl, tyok_Mo, nm_Mo, rfl, rfl, rfl⟩
theorem fP_Mo_34 : fx_P R_Mo 34 9 10 36 (.array .int) true := ⟨R_Mo, T_Mo, ty_Mo, rfl, hin_Mo, by decide, zG_in 614 (by decide +kernel) rfl, tyok_Mo, nm_Mo, rfl, rfl, rfl⟩
theorem fP_Mo_37 : fx_P R_Mo 37 9 11 36 (.array .int) true := ⟨R_Mo, T_Mo, ty_Mo, rfl, hin_Mo, by decide, zG_in 615 (by decide +kernel) rfl, tyok_Mo, nm_Mo, rfl, rfl, rfl⟩
theorem fP_Mo_40 : fx_P R_Mo 40 9 12 36 .int false := ⟨R_Mo, T_Mo, ty_Mo, rfl, hin_Mo, by decide, zG_in 616 (by decide +kernel) rfl, tyok_Mo, nm_Mo, rfl, rfl, rfl⟩
theorem fP_Mo_44 : fx_P R_Mo 44 9 14 36 (.array .int) true := ⟨R_Mo, T_Mo, ty_Mo, rfl, hin_Mo, by decide, zG_in 618 (by decide +kernel) rfl, tyok_Mo, nm_Mo, rfl, rfl, rfl⟩
theorem fP_Mo_47 : fx_P R_Mo 47 9 15 36 (.array .int) true := ⟨R_Mo, T_Mo, ty_Mo, rfl, hin_Mo, by decide, zG_in 619 (by decide +kernel) rfl, tyok_Mo, nm_Mo, rfl, rfl, rfl⟩
theorem fP_Mo_50 : fx_P R_Mo 50 9 16 36 (.array .boolean) true := ⟨R_Mo, T_Mo, ty_Mo, rfl, hin_Mo, by decide, zG_in 620 (by decide +kernel) rfl, tyok_Mo, nm_Mo, rfl, rfl, rfl⟩
theorem fP_Mo_54 : fx_P R_Mo 54 9 18 36 (.array .int) true := ⟨R_Mo, T_Mo, ty_Mo, rfl, hin_Mo, by decide, zG_in 622 (by decide +kernel) rfl, tyok_Mo, nm_Mo, rfl, rfl, rfl⟩
theorem fP_Mo_57 : fx_P R_Mo 57 9 19 36 (.array .int) true := ⟨R_Mo, T_Mo, ty_Mo, rfl, hin_Mo, by decide, zG_in 623 (by decide +kernel) rfl, tyok_Mo, nm_Mo, rfl, rfl, rfl⟩
theorem fP_Mo_60 : fx_P R_Mo 60 9 20 36 (.array .int) true := ⟨R_Mo, T_Mo, ty_Mo, rfl, hin_Mo, by decide, zG_in 624 (by decide +kernel) rfl, tyok_Mo, nm_Mo, rfl, rfl, rfl⟩
theorem fP_Mo_63 : fx_P R_Mo 63 9 21 36 (.array .int) true := ⟨R_Mo, T_Mo, ty_Mo, rfl, hin_Mo, by decide, zG_in 625 (by decide +kernel) rfl, tyok_Mo, nm_Mo, rfl, rfl, rfl⟩
theorem fP_Mo_66 : fx_P R_Mo 66 9 22 36 (.array .int) true := ⟨R_Mo, T_Mo, ty_Mo, rfl, hin_Mo, by decide, zG_in 626 (by decide +kernel) rfl, tyok_Mo, nm_Mo, rfl, rfl, rfl⟩
theorem fP_Mo_69 : fx_P R_Mo 69 9 23 36 (.array .int) true := ⟨R_Mo, T_Mo, ty_Mo, rfl, hin_Mo, by decide, zG_in 627 (by decide +kernel) rfl, tyok_Mo, nm_Mo, rfl, rfl, rfl⟩
theorem fP_Mo_72 : fx_P R_Mo 72 9 24 36 (.array .int) true := ⟨R_Mo, T_Mo, ty_Mo, rfl, hin_Mo, by decide, zG_in 628 (by decide +kernel) rfl, tyok_Mo, nm_Mo, rfl, rfl, rfl⟩
theorem fP_Mo_75 : fx_P R_Mo 75 9 25 36 (.array .int) true := ⟨R_Mo, T_Mo, ty_Mo, rfl, hin_Mo, by decide, zG_in 629 (by decide +kernel) rfl, tyok_Mo, nm_Mo, rfl, rfl, rfl⟩
theorem fP_Mo_78 : fx_P R_Mo 78 9 26 36 (.array .int) true := ⟨R_Mo, T_Mo, ty_Mo, rfl, hin_Mo, by decide, zG_in 630 (by decide +kernel) rfl, tyok_Mo, nm_Mo, rfl, rfl, rfl⟩
theorem fP_Mo_81 : fx_P R_Mo 81 9 27 36 (.array .int) true := ⟨R_Mo, T_Mo, ty_Mo, rfl, hin_Mo, by decide, zG_in 631 (by decide +kernel) rfl, tyok_Mo, nm_Mo, rfl, rfl, rfl⟩
theorem fP_Mo_84 : fx_P R_Mo 84 9 28 36 (.array .int) true := ⟨R_Mo, T_Mo, ty_Mo, rfl, hin_Mo, by decide, zG_in 632 (by decide +kernel) rfl, tyok_Mo, nm_Mo, rfl, rfl, rfl⟩
theorem fP_Mo_87 : fx_P R_Mo 87 9 29 36 (.array .boolean) true := ⟨R_Mo, T_Mo, ty_Mo, rfl, hin_Mo, by decide, zG_in 633 (by decide +kernel) rfl, tyok_Mo, nm_Mo, rfl, rfl, rfl⟩
theorem fP_Mo_90 : fx_P R_Mo 90 9 32 36 (.array .int) true := ⟨R_Mo, T_Mo, ty_Mo, rfl, hin_Mo, by decide, zG_in 636 (by decide +kernel) rfl, tyok_Mo, nm_Mo, rfl, rfl, rfl⟩
theorem fP_Mo_93 : fx_P R_Mo 93 9 34 36 (.array .int) true := ⟨R_Mo, T_Mo, ty_Mo, rfl, hin_Mo, by decide, zG_in 638 (by decide +kernel) rfl, tyok_Mo, nm_Mo, rfl, rfl, rfl⟩
theorem fP_Mo_96 : fx_P R_Mo 96 9 35 36 (.array .int) true := ⟨R_Mo, T_Mo, ty_Mo, rfl, hin_Mo, by decide, zG_in 639 (by decide +kernel) rfl, tyok_Mo, nm_Mo, rfl, rfl, rfl⟩
theorem fP_Mo_99 : fx_P R_Mo 99 9 0 36 .int false := ⟨R_Mo, T_Mo, ty_Mo, rfl, hin_Mo, by decide, zG_in 604 (by decide +kernel) rfl, tyok_Mo, nm_Mo, rfl, rfl, rfl⟩
theorem fP_Mo_102 : fx_P R_Mo 102 9 3 36 .int false := ⟨R_Mo, T_Mo, ty_Mo, rfl, hin_Mo, by decide, zG_in 607 (by decide +kernel) rfl, tyok_Mo, nm_Mo, rfl, rfl, rfl⟩
theorem fP_Mo_130 : fx_P R_Mo 130 9 13 36 .int false := ⟨R_Mo, T_Mo, ty_Mo, rfl, hin_Mo, by decide, zG_in 617 (by decide +kernel) rfl, tyok_Mo, nm_Mo, rfl, rfl, rfl⟩
theorem fP_Mo_157 : fx_P R_Mo 157 9 17 36 .int false := ⟨R_Mo, T_Mo, ty_Mo, rfl, hin_Mo, by decide, zG_in 621 (by decide +kernel) rfl, tyok_Mo, nm_Mo, rfl, rfl, rfl⟩
theorem fP_Mo_160 : fx_P R_Mo 160 9 31 36 .int false := ⟨R_Mo, T_Mo, ty_Mo, rfl, hin_Mo, by decide, zG_in 635 (by decide +kernel) rfl, tyok_Mo, nm_Mo, rfl, rfl, rfl⟩
theorem fP_Mo_169 : fx_P R_Mo 169 9 30 36 .int false := ⟨R_Mo, T_Mo, ty_Mo, rfl, hin_Mo, by decide, zG_in 634 (by decide +kernel) rfl, tyok_Mo, nm_Mo, rfl, rfl, rfl⟩
theorem fP_Mo_175 : fx_P R_Mo 175 9 33 36 .int false := ⟨R_Mo, T_Mo, ty_Mo, rfl, hin_Mo, by decide, zG_in 637 (by decide +kernel) rfl, tyok_Mo, nm_Mo, rfl, rfl, rfl⟩
theorem lk_G_3 : Cond.methodLink R_G 3 Lib.objectInit ∈ zG := zG_in 60 (by decide +kernel) rfl
theorem lk_G_11 : (R_G, 11, m_Sc_init.1, "QueryGraph") ∈ fx_nest := List.mem_of_getElem? (i := 0) rfl
theorem lk_G_18 : (R_G, 18, m_Ro_init.1, "QueryGraph") ∈ fx_nest := List.mem_of_getElem? (i := 1) rfl
theorem lk_G_25 : (R_G, 25, m_Te_init.1, "QueryGraph") ∈ fx_nest := List.mem_of_getElem? (i := 2) rfl
theorem lk_G_36 : Cond.methodLink R_G 36 m_Pl_init.1 ∈ zG := zG_in 138 (by decide +kernel) rfl
theorem lk_G_47 : Cond.methodLink R_G 47 m_Co_init.1 ∈ zG := zG_in 221 (by decide +kernel) rfl
theorem lk_G_50 : Cond.methodLink R_G 50 m_As_init.1 ∈ zG := zG_in 242 (by decide +kernel) rfl
theorem lk_G_64 : Cond.methodLink R_G 64 m_Sc_addType.1 ∈ zG := zG_in 317 (by decide +kernel) rfl
theorem lk_G_68 : Cond.methodLink R_G 68 m_Sc_hasType.1 ∈ zG := zG_in 325 (by decide +kernel) rfl
theorem lk_G_72 : Cond.methodLink R_G 72 m_G_isWithin.1 ∈ zG := zG_in 329 (by decide +kernel) rfl
theorem lk_G_79 : Cond.methodLink R_G 79 m_Sc_addField.1 ∈ zG := zG_in 332 (by decide +kernel) rfl
theorem lk_G_83 : Cond.methodLink R_G 83 m_Ro_addRow.1 ∈ zG := zG_in 340 (by decide +kernel) rfl
theorem lk_G_87 : Cond.methodLink R_G 87 m_G_kindIn.1 ∈ zG := zG_in 355 (by decide +kernel) rfl
theorem lk_G_91 : Cond.methodLink R_G 91 m_Ro_holdNumber.1 ∈ zG := zG_in 377 (by decide +kernel) rfl
theorem lk_G_95 : Cond.methodLink R_G 95 m_Ro_hasRow.1 ∈ zG := zG_in 359 (by decide +kernel) rfl
theorem lk_G_98 : Cond.methodLink R_G 98 m_Ro_typeOf.1 ∈ zG := zG_in 364 (by decide +kernel) rfl
theorem lk_G_101 : Cond.methodLink R_G 101 m_Sc_targetOf.1 ∈ zG := zG_in 385 (by decide +kernel) rfl
theorem lk_G_104 : Cond.methodLink R_G 104 m_Ro_emptyField.1 ∈ zG := zG_in 389 (by decide +kernel) rfl
theorem lk_G_108 : Cond.methodLink R_G 108 m_Ro_linkedCount.1 ∈ zG := zG_in 390 (by decide +kernel) rfl
theorem lk_G_111 : Cond.methodLink R_G 111 m_Ro_addLinked.1 ∈ zG := zG_in 394 (by decide +kernel) rfl
theorem lk_G_115 : Cond.methodLink R_G 115 m_G_isTokenInRange.1 ∈ zG := zG_in 410 (by decide +kernel) rfl
theorem lk_G_121 : Cond.methodLink R_G 121 m_Te_addToken.1 ∈ zG := zG_in 413 (by decide +kernel) rfl
theorem lk_G_125 : Cond.methodLink R_G 125 m_Pl_writeOutQuery.1 ∈ zG := zG_in 425 (by decide +kernel) rfl
theorem lk_G_131 : Cond.methodLink R_G 131 m_As_forget.1 ∈ zG := zG_in 472 (by decide +kernel) rfl
theorem lk_G_134 : Cond.methodLink R_G 134 m_Pl_root.1 ∈ zG := zG_in 480 (by decide +kernel) rfl
theorem lk_G_138 : Cond.methodLink R_G 138 m_As_answer.1 ∈ zG := zG_in 484 (by decide +kernel) rfl
theorem lk_G_152 : Cond.methodLink R_G 152 m_Pa_partOf.1 ∈ zG := zG_in 589 (by decide +kernel) rfl
theorem lk_G_160 : Cond.methodLink R_G 160 m_Sc_kindOf.1 ∈ zG := zG_in 368 (by decide +kernel) rfl
theorem lk_As_3 : Cond.methodLink R_As 3 Lib.objectInit ∈ zG := zG_in 245 (by decide +kernel) rfl
theorem lk_As_11 : (R_As, 11, m_Pa_init.1, "QueryGraph") ∈ fx_nest := List.mem_of_getElem? (i := 3) rfl
theorem lk_As_34 : Cond.methodLink R_As 34 m_Pa_forgetAll.1 ∈ zG := zG_in 476 (by decide +kernel) rfl
theorem lk_As_37 : Cond.methodLink R_As 37 m_As_forget.1 ∈ zG := zG_in 488 (by decide +kernel) rfl
theorem lk_As_46 : Cond.methodLink R_As 46 m_As_workOutObject.1 ∈ zG := zG_in 489 (by decide +kernel) rfl
theorem lk_As_50 : Cond.methodLink R_As 50 m_As_collectEntries.1 ∈ zG := zG_in 493 (by decide +kernel) rfl
theorem lk_As_54 : Cond.methodLink R_As 54 m_As_addCode.1 ∈ zG := zG_in 528 (by decide +kernel) rfl
theorem lk_As_63 : Cond.methodLink R_As 63 m_Pa_goInto.1 ∈ zG := zG_in 532 (by decide +kernel) rfl
theorem lk_As_66 : Cond.methodLink R_As 66 m_As_workOutValue.1 ∈ zG := zG_in 536 (by decide +kernel) rfl
theorem lk_As_69 : Cond.methodLink R_As 69 m_Pa_goOut.1 ∈ zG := zG_in 564 (by decide +kernel) rfl
theorem lk_As_76 : Cond.methodLink R_As 76 m_As_cutBack.1 ∈ zG := zG_in 577 (by decide +kernel) rfl
theorem lk_As_79 : Cond.methodLink R_As 79 m_Ro_typeOf.1 ∈ zG := zG_in 497 (by decide +kernel) rfl
theorem lk_As_85 : Cond.methodLink R_As 85 m_Co_collect.1 ∈ zG := zG_in 498 (by decide +kernel) rfl
theorem lk_As_101 : Cond.methodLink R_As 101 m_As_workOutLink.1 ∈ zG := zG_in 540 (by decide +kernel) rfl
theorem lk_As_104 : Cond.methodLink R_As 104 m_As_workOutMany.1 ∈ zG := zG_in 560 (by decide +kernel) rfl
theorem lk_As_107 : Cond.methodLink R_As 107 m_As_workOutNumber.1 ∈ zG := zG_in 569 (by decide +kernel) rfl
theorem lk_As_114 : Cond.methodLink R_As 114 m_Ro_numberOf.1 ∈ zG := zG_in 573 (by decide +kernel) rfl
theorem lk_As_118 : Cond.methodLink R_As 118 m_As_workOutNothing.1 ∈ zG := zG_in 545 (by decide +kernel) rfl
theorem lk_As_122 : Cond.methodLink R_As 122 m_Ro_linkedCount.1 ∈ zG := zG_in 544 (by decide +kernel) rfl
theorem lk_As_125 : Cond.methodLink R_As 125 m_Ro_linkedRow.1 ∈ zG := zG_in 556 (by decide +kernel) rfl
theorem lk_As_132 : Cond.methodLink R_As 132 m_Pa_noteHere.1 ∈ zG := zG_in 549 (by decide +kernel) rfl
theorem lk_Co_3 : Cond.methodLink R_Co 3 Lib.objectInit ∈ zG := zG_in 224 (by decide +kernel) rfl
theorem lk_Co_45 : Cond.methodLink R_Co 45 m_St_isEntry.1 ∈ zG := zG_in 502 (by decide +kernel) rfl
theorem lk_Co_49 : Cond.methodLink R_Co 49 m_Co_enter.1 ∈ zG := zG_in 506 (by decide +kernel) rfl
theorem lk_Co_53 : Cond.methodLink R_Co 53 m_Co_isPassedOver.1 ∈ zG := zG_in 521 (by decide +kernel) rfl
theorem lk_Co_57 : Cond.methodLink R_Co 57 Lib.Math.max.name ∈ zG := zG_in 525 (by decide +kernel) rfl
theorem lk_Co_75 : Cond.methodLink R_Co 75 m_Co_entryNamed.1 ∈ zG := zG_in 510 (by decide +kernel) rfl
theorem lk_Co_79 : Cond.methodLink R_Co 79 m_Co_addEntry.1 ∈ zG := zG_in 514 (by decide +kernel) rfl
theorem lk_Co_82 : Cond.methodLink R_Co 82 m_Co_putBehind.1 ∈ zG := zG_in 518 (by decide +kernel) rfl
theorem lk_Pa_3 : Cond.methodLink R_Pa 3 Lib.objectInit ∈ zG := zG_in 251 (by decide +kernel) rfl
theorem lk_Pa_28 : Cond.methodLink R_Pa 28 Lib.Math.max.name ∈ zG := zG_in 568 (by decide +kernel) rfl
theorem lk_Pa_34 : Cond.methodLink R_Pa 34 arraycopyName ∈ zG := zG_in 553 (by decide +kernel) rfl
theorem lk_Pa_40 : (R_Pa, 40, m_G_isWithin.1, "QueryGraph") ∈ fx_nest := List.mem_of_getElem? (i := 4) rfl
theorem lk_Pl_3 : Cond.methodLink R_Pl 3 Lib.objectInit ∈ zG := zG_in 141 (by decide +kernel) rfl
theorem lk_Pl_33 : Cond.methodLink R_Pl 33 m_St_init.1 ∈ zG := zG_in 145 (by decide +kernel) rfl
theorem lk_Pl_43 : Cond.methodLink R_Pl 43 m_Te_isGood.1 ∈ zG := zG_in 429 (by decide +kernel) rfl
theorem lk_Pl_55 : Cond.methodLink R_Pl 55 m_Pl_writeOut.1 ∈ zG := zG_in 436 (by decide +kernel) rfl
theorem lk_Pl_63 : Cond.methodLink R_Pl 63 m_Pl_takeStep.1 ∈ zG := zG_in 440 (by decide +kernel) rfl
theorem lk_Pl_67 : Cond.methodLink R_Pl 67 m_Pl_isRight.1 ∈ zG := zG_in 444 (by decide +kernel) rfl
theorem lk_Pl_71 : Cond.methodLink R_Pl 71 m_Pl_typeBehind.1 ∈ zG := zG_in 458 (by decide +kernel) rfl
theorem lk_Pl_84 : (R_Pl, 84, m_G_hasSetBehind.1, "QueryGraph") ∈ fx_nest := List.mem_of_getElem? (i := 5) rfl
theorem lk_Pl_99 : Cond.methodLink R_Pl 99 m_Pl_findField.1 ∈ zG := zG_in 448 (by decide +kernel) rfl
theorem lk_Pl_102 : Cond.methodLink R_Pl 102 m_Sc_hasType.1 ∈ zG := zG_in 457 (by decide +kernel) rfl
theorem lk_Pl_107 : Cond.methodLink R_Pl 107 m_Sc_kindOf.1 ∈ zG := zG_in 452 (by decide +kernel) rfl
theorem lk_Pl_114 : Cond.methodLink R_Pl 114 m_Sc_isRequired.1 ∈ zG := zG_in 453 (by decide +kernel) rfl
theorem lk_Pl_122 : Cond.methodLink R_Pl 122 m_Sc_targetOf.1 ∈ zG := zG_in 462 (by decide +kernel) rfl
theorem lk_Ro_3 : Cond.methodLink R_Ro 3 Lib.objectInit ∈ zG := zG_in 94 (by decide +kernel) rfl
theorem lk_Ro_28 : (R_Ro, 28, m_G_isWithin.1, "QueryGraph") ∈ fx_nest := List.mem_of_getElem? (i := 6) rfl
theorem lk_Ro_32 : Cond.methodLink R_Ro 32 m_Ro_emptyField.1 ∈ zG := zG_in 344 (by decide +kernel) rfl
theorem lk_Ro_36 : Cond.methodLink R_Ro 36 m_Ro_cellOf.1 ∈ zG := zG_in 348 (by decide +kernel) rfl
theorem lk_Sc_3 : Cond.methodLink R_Sc 3 Lib.objectInit ∈ zG := zG_in 68 (by decide +kernel) rfl
theorem lk_Sc_29 : Cond.methodLink R_Sc 29 m_Sc_hasType.1 ∈ zG := zG_in 376 (by decide +kernel) rfl
theorem lk_Sc_33 : Cond.methodLink R_Sc 33 m_Sc_hasField.1 ∈ zG := zG_in 372 (by decide +kernel) rfl
theorem lk_St_3 : Cond.methodLink R_St 3 Lib.objectInit ∈ zG := zG_in 148 (by decide +kernel) rfl
theorem lk_Te_3 : Cond.methodLink R_Te 3 Lib.objectInit ∈ zG := zG_in 117 (by decide +kernel) rfl
theorem lk_Te_24 : (R_Te, 24, m_G_hasSetBehind.1, "QueryGraph") ∈ fx_nest := List.mem_of_getElem? (i := 7) rfl
theorem lk_L_9 : Cond.methodLink R_L 9 m_G_init.1 ∈ zG := zG_in 57 (by decide +kernel) rfl
theorem lk_L_12 : Cond.methodLink R_L 12 m_Mo_init.1 ∈ zG := zG_in 600 (by decide +kernel) rfl
theorem lk_L_13 : Cond.methodLink R_L 13 m_G_type.1 ∈ zG := zG_in 313 (by decide +kernel) rfl
theorem lk_L_17 : Cond.methodLink R_L 17 m_Mo_type.1 ∈ zG := zG_in 713 (by decide +kernel) rfl
theorem lk_L_18 : Cond.methodLink R_L 18 m_G_field.1 ∈ zG := zG_in 321 (by decide +kernel) rfl
theorem lk_L_22 : Cond.methodLink R_L 22 m_Mo_field.1 ∈ zG := zG_in 717 (by decide +kernel) rfl
theorem lk_L_23 : Cond.methodLink R_L 23 m_G_row.1 ∈ zG := zG_in 336 (by decide +kernel) rfl
theorem lk_L_27 : Cond.methodLink R_L 27 m_Mo_row.1 ∈ zG := zG_in 724 (by decide +kernel) rfl
theorem lk_L_28 : Cond.methodLink R_L 28 m_G_put.1 ∈ zG := zG_in 351 (by decide +kernel) rfl
theorem lk_L_32 : Cond.methodLink R_L 32 m_Mo_put.1 ∈ zG := zG_in 728 (by decide +kernel) rfl
theorem lk_L_33 : Cond.methodLink R_L 33 m_G_link.1 ∈ zG := zG_in 381 (by decide +kernel) rfl
theorem lk_L_36 : Cond.methodLink R_L 36 m_Mo_link.1 ∈ zG := zG_in 740 (by decide +kernel) rfl
theorem lk_L_37 : Cond.methodLink R_L 37 m_G_clear.1 ∈ zG := zG_in 398 (by decide +kernel) rfl
theorem lk_L_41 : Cond.methodLink R_L 41 m_Mo_clear.1 ∈ zG := zG_in 744 (by decide +kernel) rfl
theorem lk_L_42 : Cond.methodLink R_L 42 m_G_set.1 ∈ zG := zG_in 402 (by decide +kernel) rfl
theorem lk_L_45 : Cond.methodLink R_L 45 m_Mo_set.1 ∈ zG := zG_in 748 (by decide +kernel) rfl
theorem lk_L_46 : Cond.methodLink R_L 46 m_G_token.1 ∈ zG := zG_in 406 (by decide +kernel) rfl
theorem lk_L_50 : Cond.methodLink R_L 50 m_Mo_token.1 ∈ zG := zG_in 752 (by decide +kernel) rfl
theorem lk_L_51 : Cond.methodLink R_L 51 m_G_wipe.1 ∈ zG := zG_in 417 (by decide +kernel) rfl
theorem lk_L_54 : Cond.methodLink R_L 54 m_Mo_wipe.1 ∈ zG := zG_in 759 (by decide +kernel) rfl
theorem lk_L_55 : Cond.methodLink R_L 55 m_G_check.1 ∈ zG := zG_in 421 (by decide +kernel) rfl
theorem lk_L_58 : Cond.methodLink R_L 58 m_Mo_check.1 ∈ zG := zG_in 763 (by decide +kernel) rfl
theorem lk_L_59 : Cond.methodLink R_L 59 m_G_place.1 ∈ zG := zG_in 464 (by decide +kernel) rfl
theorem lk_L_62 : Cond.methodLink R_L 62 m_Mo_place.1 ∈ zG := zG_in 795 (by decide +kernel) rfl
theorem lk_L_63 : Cond.methodLink R_L 63 m_G_ask.1 ∈ zG := zG_in 468 (by decide +kernel) rfl
theorem lk_L_66 : Cond.methodLink R_L 66 m_Mo_ask.1 ∈ zG := zG_in 799 (by decide +kernel) rfl
theorem lk_L_67 : Cond.methodLink R_L 67 m_G_code.1 ∈ zG := zG_in 581 (by decide +kernel) rfl
theorem lk_L_70 : Cond.methodLink R_L 70 m_Mo_code.1 ∈ zG := zG_in 859 (by decide +kernel) rfl
theorem lk_L_71 : Cond.methodLink R_L 71 m_G_missing.1 ∈ zG := zG_in 585 (by decide +kernel) rfl
theorem lk_L_74 : Cond.methodLink R_L 74 m_Mo_missing.1 ∈ zG := zG_in 863 (by decide +kernel) rfl
theorem lk_L_75 : Cond.methodLink R_L 75 m_G_count.1 ∈ zG := zG_in 594 (by decide +kernel) rfl
theorem lk_L_78 : Cond.methodLink R_L 78 m_Mo_count.1 ∈ zG := zG_in 867 (by decide +kernel) rfl
theorem lk_Mo_1 : Cond.methodLink R_Mo 1 Lib.objectInit ∈ zG := zG_in 603 (by decide +kernel) rfl
theorem lk_Mo_105 : Cond.methodLink R_Mo 105 m_Mo_in.1 ∈ zG := zG_in 721 (by decide +kernel) rfl
theorem lk_Mo_109 : Cond.methodLink R_Mo 109 m_Mo_badField.1 ∈ zG := zG_in 732 (by decide +kernel) rfl
theorem lk_Mo_113 : Cond.methodLink R_Mo 113 m_Mo_of.1 ∈ zG := zG_in 736 (by decide +kernel) rfl
theorem lk_Mo_117 : Cond.methodLink R_Mo 117 m_Mo_fits.1 ∈ zG := zG_in 756 (by decide +kernel) rfl
theorem lk_Mo_120 : Cond.methodLink R_Mo 120 m_Mo_opens.1 ∈ zG := zG_in 775 (by decide +kernel) rfl
theorem lk_Mo_124 : Cond.methodLink R_Mo 124 m_Mo_fieldRight.1 ∈ zG := zG_in 787 (by decide +kernel) rfl
theorem lk_Mo_127 : Cond.methodLink R_Mo 127 m_Mo_good.1 ∈ zG := zG_in 771 (by decide +kernel) rfl
theorem lk_Mo_133 : Cond.methodLink R_Mo 133 m_Mo_enter.1 ∈ zG := zG_in 779 (by decide +kernel) rfl
theorem lk_Mo_137 : Cond.methodLink R_Mo 137 m_Mo_right.1 ∈ zG := zG_in 783 (by decide +kernel) rfl
theorem lk_Mo_140 : Cond.methodLink R_Mo 140 m_Mo_through.1 ∈ zG := zG_in 791 (by decide +kernel) rfl
theorem lk_Mo_144 : Cond.methodLink R_Mo 144 m_Mo_checked.1 ∈ zG := zG_in 767 (by decide +kernel) rfl
theorem lk_Mo_147 : Cond.methodLink R_Mo 147 m_Mo_addSet.1 ∈ zG := zG_in 815 (by decide +kernel) rfl
theorem lk_Mo_151 : Cond.methodLink R_Mo 151 m_Mo_take.1 ∈ zG := zG_in 811 (by decide +kernel) rfl
theorem lk_Mo_154 : Cond.methodLink R_Mo 154 m_Mo_behind.1 ∈ zG := zG_in 819 (by decide +kernel) rfl
theorem lk_Mo_163 : Cond.methodLink R_Mo 163 m_Mo_collectOne.1 ∈ zG := zG_in 807 (by decide +kernel) rfl
theorem lk_Mo_166 : Cond.methodLink R_Mo 166 m_Mo_say.1 ∈ zG := zG_in 823 (by decide +kernel) rfl
theorem lk_Mo_172 : Cond.methodLink R_Mo 172 m_Mo_entry.1 ∈ zG := zG_in 839 (by decide +kernel) rfl
theorem lk_Mo_178 : Cond.methodLink R_Mo 178 m_Mo_kindAt.1 ∈ zG := zG_in 847 (by decide +kernel) rfl
theorem lk_Mo_181 : Cond.methodLink R_Mo 181 m_Mo_note.1 ∈ zG := zG_in 843 (by decide +kernel) rfl
theorem lk_Mo_184 : Cond.methodLink R_Mo 184 m_Mo_nothing.1 ∈ zG := zG_in 835 (by decide +kernel) rfl
theorem lk_Mo_188 : Cond.methodLink R_Mo 188 m_Mo_begin.1 ∈ zG := zG_in 803 (by decide +kernel) rfl
theorem lk_Mo_191 : Cond.methodLink R_Mo 191 m_Mo_endObject.1 ∈ zG := zG_in 831 (by decide +kernel) rfl
theorem lk_Mo_195 : Cond.methodLink R_Mo 195 m_Mo_manyStep.1 ∈ zG := zG_in 851 (by decide +kernel) rfl
theorem lk_Mo_198 : Cond.methodLink R_Mo 198 m_Mo_plain.1 ∈ zG := zG_in 855 (by decide +kernel) rfl
theorem lk_Mo_202 : Cond.methodLink R_Mo 202 m_Mo_step.1 ∈ zG := zG_in 827 (by decide +kernel) rfl
theorem mv_G_init : MV m_G_init 0 := ⟨zG_in 58 (by decide +kernel) rfl, zG_in 43 (by decide +kernel) rfl, zG_in 59 (by decide +kernel) rfl, by decide +kernel, by decide⟩
theorem mv_Sc_init : MV m_Sc_init 0 := ⟨zG_in 66 (by decide +kernel) rfl, zG_in 44 (by decide +kernel) rfl, zG_in 67 (by decide +kernel) rfl, by decide +kernel, by decide⟩
theorem mv_Ro_init : MV m_Ro_init 0 := ⟨zG_in 92 (by decide +kernel) rfl, zG_in 45 (by decide +kernel) rfl, zG_in 93 (by decide +kernel) rfl, by decide +kernel, by decide⟩
theorem mv_Te_init : MV m_Te_init 0 := ⟨zG_in 115 (by decide +kernel) rfl, zG_in 46 (by decide +kernel) rfl, zG_in 116 (by decide +kernel) rfl, by decide +kernel, by decide⟩
theorem mv_Pl_init : MV m_Pl_init 2 := ⟨zG_in 139 (by decide +kernel) rfl, zG_in 47 (by decide +kernel) rfl, zG_in 140 (by decide +kernel) rfl, by decide +kernel, by decide⟩
theorem mv_St_init : MV m_St_init 1 := ⟨zG_in 146 (by decide +kernel) rfl, zG_in 48 (by decide +kernel) rfl, zG_in 147 (by decide +kernel) rfl, by decide +kernel, by decide⟩
theorem mv_Co_init : MV m_Co_init 2 := ⟨zG_in 222 (by decide +kernel) rfl, zG_in 50 (by decide +kernel) rfl, zG_in 223 (by decide +kernel) rfl, by decide +kernel, by decide⟩
theorem mv_As_init : MV m_As_init 2 := ⟨zG_in 243 (by decide +kernel) rfl, zG_in 49 (by decide +kernel) rfl, zG_in 244 (by decide +kernel) rfl, by decide +kernel, by decide⟩
theorem mv_Pa_init : MV m_Pa_init 0 := ⟨zG_in 249 (by decide +kernel) rfl, zG_in 51 (by decide +kernel) rfl, zG_in 250 (by decide +kernel) rfl, by decide +kernel, by decide⟩
theorem mv_G_type : MV m_G_type 0 := ⟨zG_in 314 (by decide +kernel) rfl, zG_in 43 (by decide +kernel) rfl, zG_in 316 (by decide +kernel) rfl, by decide +kernel, by decide⟩
theorem sel_G_type : Cond.selects m_G_type.1.cls m_G_type.1 m_G_type.1 ∈ zG := zG_in 315 (by decide +kernel) rfl
theorem mv_Sc_addType : MV m_Sc_addType 0 := ⟨zG_in 318 (by decide +kernel) rfl, zG_in 44 (by decide +kernel) rfl, zG_in 320 (by decide +kernel) rfl, by decide +kernel, by decide⟩
theorem sel_Sc_addType : Cond.selects m_Sc_addType.1.cls m_Sc_addType.1 m_Sc_addType.1 ∈ zG := zG_in 319 (by decide +kernel) rfl
theorem mv_G_field : MV m_G_field 4 := ⟨zG_in 322 (by decide +kernel) rfl, zG_in 43 (by decide +kernel) rfl, zG_in 324 (by decide +kernel) rfl, by decide +kernel, by decide⟩
theorem sel_G_field : Cond.selects m_G_field.1.cls m_G_field.1 m_G_field.1 ∈ zG := zG_in 323 (by decide +kernel) rfl
theorem mv_Sc_hasType : MV m_Sc_hasType 1 := ⟨zG_in 326 (by decide +kernel) rfl, zG_in 44 (by decide +kernel) rfl, zG_in 328 (by decide +kernel) rfl, by decide +kernel, by decide⟩
theorem sel_Sc_hasType : Cond.selects m_Sc_hasType.1.cls m_Sc_hasType.1 m_Sc_hasType.1 ∈ zG := zG_in 327 (by decide +kernel) rfl
theorem mv_G_isWithin : MSt m_G_isWithin 3 := ⟨zG_in 330 (by decide +kernel) rfl, zG_in 43 (by decide +kernel) rfl, zG_in 331 (by decide +kernel) rfl, by decide +kernel, by decide⟩
theorem mv_Sc_addField : MV m_Sc_addField 4 := ⟨zG_in 333 (by decide +kernel) rfl, zG_in 44 (by decide +kernel) rfl, zG_in 335 (by decide +kernel) rfl, by decide +kernel, by decide⟩
theorem sel_Sc_addField : Cond.selects m_Sc_addField.1.cls m_Sc_addField.1 m_Sc_addField.1 ∈ zG := zG_in 334 (by decide +kernel) rfl
theorem mv_G_row : MV m_G_row 1 := ⟨zG_in 337 (by decide +kernel) rfl, zG_in 43 (by decide +kernel) rfl, zG_in 339 (by decide +kernel) rfl, by decide +kernel, by decide⟩
theorem sel_G_row : Cond.selects m_G_row.1.cls m_G_row.1 m_G_row.1 ∈ zG := zG_in 338 (by decide +kernel) rfl
theorem mv_Ro_addRow : MV m_Ro_addRow 1 := ⟨zG_in 341 (by decide +kernel) rfl, zG_in 45 (by decide +kernel) rfl, zG_in 343 (by decide +kernel) rfl, by decide +kernel, by decide⟩
theorem sel_Ro_addRow : Cond.selects m_Ro_addRow.1.cls m_Ro_addRow.1 m_Ro_addRow.1 ∈ zG := zG_in 342 (by decide +kernel) rfl
theorem mv_Ro_emptyField : MV m_Ro_emptyField 2 := ⟨zG_in 345 (by decide +kernel) rfl, zG_in 45 (by decide +kernel) rfl, zG_in 347 (by decide +kernel) rfl, by decide +kernel, by decide⟩
theorem sel_Ro_emptyField : Cond.selects m_Ro_emptyField.1.cls m_Ro_emptyField.1 m_Ro_emptyField.1 ∈ zG := zG_in 346 (by decide +kernel) rfl
theorem mv_Ro_cellOf : MSt m_Ro_cellOf 2 := ⟨zG_in 349 (by decide +kernel) rfl, zG_in 45 (by decide +kernel) rfl, zG_in 350 (by decide +kernel) rfl, by decide +kernel, by decide⟩
theorem mv_G_put : MV m_G_put 3 := ⟨zG_in 352 (by decide +kernel) rfl, zG_in 43 (by decide +kernel) rfl, zG_in 354 (by decide +kernel) rfl, by decide +kernel, by decide⟩
theorem sel_G_put : Cond.selects m_G_put.1.cls m_G_put.1 m_G_put.1 ∈ zG := zG_in 353 (by decide +kernel) rfl
theorem mv_G_kindIn : MV m_G_kindIn 2 := ⟨zG_in 357 (by decide +kernel) rfl, zG_in 43 (by decide +kernel) rfl, zG_in 358 (by decide +kernel) rfl, by decide +kernel, by decide⟩
theorem sel_G_kindIn : Cond.selects m_G_kindIn.1.cls m_G_kindIn.1 m_G_kindIn.1 ∈ zG := zG_in 0 (by decide +kernel) rfl
theorem mv_Ro_hasRow : MV m_Ro_hasRow 1 := ⟨zG_in 360 (by decide +kernel) rfl, zG_in 45 (by decide +kernel) rfl, zG_in 362 (by decide +kernel) rfl, by decide +kernel, by decide⟩
theorem sel_Ro_hasRow : Cond.selects m_Ro_hasRow.1.cls m_Ro_hasRow.1 m_Ro_hasRow.1 ∈ zG := zG_in 361 (by decide +kernel) rfl
theorem mv_Ro_typeOf : MV m_Ro_typeOf 1 := ⟨zG_in 365 (by decide +kernel) rfl, zG_in 45 (by decide +kernel) rfl, zG_in 367 (by decide +kernel) rfl, by decide +kernel, by decide⟩
theorem sel_Ro_typeOf : Cond.selects m_Ro_typeOf.1.cls m_Ro_typeOf.1 m_Ro_typeOf.1 ∈ zG := zG_in 366 (by decide +kernel) rfl
theorem mv_Sc_kindOf : MV m_Sc_kindOf 2 := ⟨zG_in 369 (by decide +kernel) rfl, zG_in 44 (by decide +kernel) rfl, zG_in 371 (by decide +kernel) rfl, by decide +kernel, by decide⟩
theorem sel_Sc_kindOf : Cond.selects m_Sc_kindOf.1.cls m_Sc_kindOf.1 m_Sc_kindOf.1 ∈ zG := zG_in 370 (by decide +kernel) rfl
theorem mv_Sc_hasField : MV m_Sc_hasField 2 := ⟨zG_in 373 (by decide +kernel) rfl, zG_in 44 (by decide +kernel) rfl, zG_in 375 (by decide +kernel) rfl, by decide +kernel, by decide⟩
theorem sel_Sc_hasField : Cond.selects m_Sc_hasField.1.cls m_Sc_hasField.1 m_Sc_hasField.1 ∈ zG := zG_in 374 (by decide +kernel) rfl
theorem mv_Ro_holdNumber : MV m_Ro_holdNumber 3 := ⟨zG_in 378 (by decide +kernel) rfl, zG_in 45 (by decide +kernel) rfl, zG_in 380 (by decide +kernel) rfl, by decide +kernel, by decide⟩
theorem sel_Ro_holdNumber : Cond.selects m_Ro_holdNumber.1.cls m_Ro_holdNumber.1 m_Ro_holdNumber.1 ∈ zG := zG_in 379 (by decide +kernel) rfl
theorem mv_G_link : MV m_G_link 3 := ⟨zG_in 382 (by decide +kernel) rfl, zG_in 43 (by decide +kernel) rfl, zG_in 384 (by decide +kernel) rfl, by decide +kernel, by decide⟩
theorem sel_G_link : Cond.selects m_G_link.1.cls m_G_link.1 m_G_link.1 ∈ zG := zG_in 383 (by decide +kernel) rfl
theorem mv_Sc_targetOf : MV m_Sc_targetOf 2 := ⟨zG_in 386 (by decide +kernel) rfl, zG_in 44 (by decide +kernel) rfl, zG_in 388 (by decide +kernel) rfl, by decide +kernel, by decide⟩
theorem sel_Sc_targetOf : Cond.selects m_Sc_targetOf.1.cls m_Sc_targetOf.1 m_Sc_targetOf.1 ∈ zG := zG_in 387 (by decide +kernel) rfl
theorem mv_Ro_linkedCount : MV m_Ro_linkedCount 2 := ⟨zG_in 391 (by decide +kernel) rfl, zG_in 45 (by decide +kernel) rfl, zG_in 393 (by decide +kernel) rfl, by decide +kernel, by decide⟩
theorem sel_Ro_linkedCount : Cond.selects m_Ro_linkedCount.1.cls m_Ro_linkedCount.1 m_Ro_linkedCount.1 ∈ zG := zG_in 392 (by decide +kernel) rfl
theorem mv_Ro_addLinked : MV m_Ro_addLinked 3 := ⟨zG_in 395 (by decide +kernel) rfl, zG_in 45 (by decide +kernel) rfl, zG_in 397 (by decide +kernel) rfl, by decide +kernel, by decide⟩
theorem sel_Ro_addLinked : Cond.selects m_Ro_addLinked.1.cls m_Ro_addLinked.1 m_Ro_addLinked.1 ∈ zG := zG_in 396 (by decide +kernel) rfl
theorem mv_G_clear : MV m_G_clear 2 := ⟨zG_in 399 (by decide +kernel) rfl, zG_in 43 (by decide +kernel) rfl, zG_in 401 (by decide +kernel) rfl, by decide +kernel, by decide⟩
theorem sel_G_clear : Cond.selects m_G_clear.1.cls m_G_clear.1 m_G_clear.1 ∈ zG := zG_in 400 (by decide +kernel) rfl
theorem mv_G_set : MV m_G_set 2 := ⟨zG_in 403 (by decide +kernel) rfl, zG_in 43 (by decide +kernel) rfl, zG_in 405 (by decide +kernel) rfl, by decide +kernel, by decide⟩
theorem sel_G_set : Cond.selects m_G_set.1.cls m_G_set.1 m_G_set.1 ∈ zG := zG_in 404 (by decide +kernel) rfl
theorem mv_G_token : MV m_G_token 4 := ⟨zG_in 407 (by decide +kernel) rfl, zG_in 43 (by decide +kernel) rfl, zG_in 409 (by decide +kernel) rfl, by decide +kernel, by decide⟩
theorem sel_G_token : Cond.selects m_G_token.1.cls m_G_token.1 m_G_token.1 ∈ zG := zG_in 408 (by decide +kernel) rfl
theorem mv_G_isTokenInRange : MSt m_G_isTokenInRange 3 := ⟨zG_in 411 (by decide +kernel) rfl, zG_in 43 (by decide +kernel) rfl, zG_in 412 (by decide +kernel) rfl, by decide +kernel, by decide⟩
theorem mv_Te_addToken : MV m_Te_addToken 4 := ⟨zG_in 414 (by decide +kernel) rfl, zG_in 46 (by decide +kernel) rfl, zG_in 416 (by decide +kernel) rfl, by decide +kernel, by decide⟩
theorem sel_Te_addToken : Cond.selects m_Te_addToken.1.cls m_Te_addToken.1 m_Te_addToken.1 ∈ zG := zG_in 415 (by decide +kernel) rfl
theorem mv_G_wipe : MV m_G_wipe 1 := ⟨zG_in 418 (by decide +kernel) rfl, zG_in 43 (by decide +kernel) rfl, zG_in 420 (by decide +kernel) rfl, by decide +kernel, by decide⟩
theorem sel_G_wipe : Cond.selects m_G_wipe.1.cls m_G_wipe.1 m_G_wipe.1 ∈ zG := zG_in 419 (by decide +kernel) rfl
theorem mv_G_check : MV m_G_check 1 := ⟨zG_in 422 (by decide +kernel) rfl, zG_in 43 (by decide +kernel) rfl, zG_in 424 (by decide +kernel) rfl, by decide +kernel, by decide⟩
theorem sel_G_check : Cond.selects m_G_check.1.cls m_G_check.1 m_G_check.1 ∈ zG := zG_in 423 (by decide +kernel) rfl
theorem mv_Pl_writeOutQuery : MV m_Pl_writeOutQuery 1 := ⟨zG_in 426 (by decide +kernel) rfl, zG_in 47 (by decide +kernel) rfl, zG_in 428 (by decide +kernel) rfl, by decide +kernel, by decide⟩
theorem sel_Pl_writeOutQuery : Cond.selects m_Pl_writeOutQuery.1.cls m_Pl_writeOutQuery.1 m_Pl_writeOutQuery.1 ∈ zG := zG_in 427 (by decide +kernel) rfl
theorem mv_Te_isGood : MV m_Te_isGood 1 := ⟨zG_in 430 (by decide +kernel) rfl, zG_in 46 (by decide +kernel) rfl, zG_in 432 (by decide +kernel) rfl, by decide +kernel, by decide⟩
theorem sel_Te_isGood : Cond.selects m_Te_isGood.1.cls m_Te_isGood.1 m_Te_isGood.1 ∈ zG := zG_in 431 (by decide +kernel) rfl
theorem mv_G_hasSetBehind : MSt m_G_hasSetBehind 1 := ⟨zG_in 434 (by decide +kernel) rfl, zG_in 43 (by decide +kernel) rfl, zG_in 435 (by decide +kernel) rfl, by decide +kernel, by decide⟩
theorem mv_Pl_writeOut : MV m_Pl_writeOut 2 := ⟨zG_in 438 (by decide +kernel) rfl, zG_in 47 (by decide +kernel) rfl, zG_in 439 (by decide +kernel) rfl, by decide +kernel, by decide⟩
theorem sel_Pl_writeOut : Cond.selects m_Pl_writeOut.1.cls m_Pl_writeOut.1 m_Pl_writeOut.1 ∈ zG := zG_in 1 (by decide +kernel) rfl
theorem mv_Pl_takeStep : MV m_Pl_takeStep 2 := ⟨zG_in 442 (by decide +kernel) rfl, zG_in 47 (by decide +kernel) rfl, zG_in 443 (by decide +kernel) rfl, by decide +kernel, by decide⟩
theorem sel_Pl_takeStep : Cond.selects m_Pl_takeStep.1.cls m_Pl_takeStep.1 m_Pl_takeStep.1 ∈ zG := zG_in 2 (by decide +kernel) rfl
theorem mv_Pl_isRight : MV m_Pl_isRight 2 := ⟨zG_in 446 (by decide +kernel) rfl, zG_in 47 (by decide +kernel) rfl, zG_in 447 (by decide +kernel) rfl, by decide +kernel, by decide⟩
theorem sel_Pl_isRight : Cond.selects m_Pl_isRight.1.cls m_Pl_isRight.1 m_Pl_isRight.1 ∈ zG := zG_in 3 (by decide +kernel) rfl
theorem mv_Pl_findField : MV m_Pl_findField 2 := ⟨zG_in 450 (by decide +kernel) rfl, zG_in 47 (by decide +kernel) rfl, zG_in 451 (by decide +kernel) rfl, by decide +kernel, by decide⟩
theorem sel_Pl_findField : Cond.selects m_Pl_findField.1.cls m_Pl_findField.1 m_Pl_findField.1 ∈ zG := zG_in 4 (by decide +kernel) rfl
theorem mv_Sc_isRequired : MV m_Sc_isRequired 2 := ⟨zG_in 454 (by decide +kernel) rfl, zG_in 44 (by decide +kernel) rfl, zG_in 456 (by decide +kernel) rfl, by decide +kernel, by decide⟩
theorem sel_Sc_isRequired : Cond.selects m_Sc_isRequired.1.cls m_Sc_isRequired.1 m_Sc_isRequired.1 ∈ zG := zG_in 455 (by decide +kernel) rfl
theorem mv_Pl_typeBehind : MV m_Pl_typeBehind 2 := ⟨zG_in 460 (by decide +kernel) rfl, zG_in 47 (by decide +kernel) rfl, zG_in 461 (by decide +kernel) rfl, by decide +kernel, by decide⟩
theorem sel_Pl_typeBehind : Cond.selects m_Pl_typeBehind.1.cls m_Pl_typeBehind.1 m_Pl_typeBehind.1 ∈ zG := zG_in 5 (by decide +kernel) rfl
theorem mv_G_place : MV m_G_place 0 := ⟨zG_in 465 (by decide +kernel) rfl, zG_in 43 (by decide +kernel) rfl, zG_in 467 (by decide +kernel) rfl, by decide +kernel, by decide⟩
theorem sel_G_place : Cond.selects m_G_place.1.cls m_G_place.1 m_G_place.1 ∈ zG := zG_in 466 (by decide +kernel) rfl
theorem mv_G_ask : MV m_G_ask 1 := ⟨zG_in 469 (by decide +kernel) rfl, zG_in 43 (by decide +kernel) rfl, zG_in 471 (by decide +kernel) rfl, by decide +kernel, by decide⟩
theorem sel_G_ask : Cond.selects m_G_ask.1.cls m_G_ask.1 m_G_ask.1 ∈ zG := zG_in 470 (by decide +kernel) rfl
theorem mv_As_forget : MV m_As_forget 0 := ⟨zG_in 473 (by decide +kernel) rfl, zG_in 49 (by decide +kernel) rfl, zG_in 475 (by decide +kernel) rfl, by decide +kernel, by decide⟩
theorem sel_As_forget : Cond.selects m_As_forget.1.cls m_As_forget.1 m_As_forget.1 ∈ zG := zG_in 474 (by decide +kernel) rfl
theorem mv_Pa_forgetAll : MV m_Pa_forgetAll 0 := ⟨zG_in 477 (by decide +kernel) rfl, zG_in 51 (by decide +kernel) rfl, zG_in 479 (by decide +kernel) rfl, by decide +kernel, by decide⟩
theorem sel_Pa_forgetAll : Cond.selects m_Pa_forgetAll.1.cls m_Pa_forgetAll.1 m_Pa_forgetAll.1 ∈ zG := zG_in 478 (by decide +kernel) rfl
theorem mv_Pl_root : MV m_Pl_root 0 := ⟨zG_in 481 (by decide +kernel) rfl, zG_in 47 (by decide +kernel) rfl, zG_in 483 (by decide +kernel) rfl, by decide +kernel, by decide⟩
theorem sel_Pl_root : Cond.selects m_Pl_root.1.cls m_Pl_root.1 m_Pl_root.1 ∈ zG := zG_in 482 (by decide +kernel) rfl
theorem mv_As_answer : MV m_As_answer 2 := ⟨zG_in 485 (by decide +kernel) rfl, zG_in 49 (by decide +kernel) rfl, zG_in 487 (by decide +kernel) rfl, by decide +kernel, by decide⟩
theorem sel_As_answer : Cond.selects m_As_answer.1.cls m_As_answer.1 m_As_answer.1 ∈ zG := zG_in 486 (by decide +kernel) rfl
theorem mv_As_workOutObject : MV m_As_workOutObject 3 := ⟨zG_in 491 (by decide +kernel) rfl, zG_in 49 (by decide +kernel) rfl, zG_in 492 (by decide +kernel) rfl, by decide +kernel, by decide⟩
theorem sel_As_workOutObject : Cond.selects m_As_workOutObject.1.cls m_As_workOutObject.1 m_As_workOutObject.1 ∈ zG := zG_in 6 (by decide +kernel) rfl
theorem mv_As_collectEntries : MV m_As_collectEntries 3 := ⟨zG_in 495 (by decide +kernel) rfl, zG_in 49 (by decide +kernel) rfl, zG_in 496 (by decide +kernel) rfl, by decide +kernel, by decide⟩
theorem sel_As_collectEntries : Cond.selects m_As_collectEntries.1.cls m_As_collectEntries.1 m_As_collectEntries.1 ∈ zG := zG_in 7 (by decide +kernel) rfl
theorem mv_Co_collect : MV m_Co_collect 2 := ⟨zG_in 499 (by decide +kernel) rfl, zG_in 50 (by decide +kernel) rfl, zG_in 501 (by decide +kernel) rfl, by decide +kernel, by decide⟩
theorem sel_Co_collect : Cond.selects m_Co_collect.1.cls m_Co_collect.1 m_Co_collect.1 ∈ zG := zG_in 500 (by decide +kernel) rfl
theorem mv_St_isEntry : MV m_St_isEntry 0 := ⟨zG_in 503 (by decide +kernel) rfl, zG_in 48 (by decide +kernel) rfl, zG_in 505 (by decide +kernel) rfl, by decide +kernel, by decide⟩
theorem sel_St_isEntry : Cond.selects m_St_isEntry.1.cls m_St_isEntry.1 m_St_isEntry.1 ∈ zG := zG_in 504 (by decide +kernel) rfl
theorem mv_Co_enter : MV m_Co_enter 1 := ⟨zG_in 508 (by decide +kernel) rfl, zG_in 50 (by decide +kernel) rfl, zG_in 509 (by decide +kernel) rfl, by decide +kernel, by decide⟩
theorem sel_Co_enter : Cond.selects m_Co_enter.1.cls m_Co_enter.1 m_Co_enter.1 ∈ zG := zG_in 8 (by decide +kernel) rfl
theorem mv_Co_entryNamed : MV m_Co_entryNamed 1 := ⟨zG_in 512 (by decide +kernel) rfl, zG_in 50 (by decide +kernel) rfl, zG_in 513 (by decide +kernel) rfl, by decide +kernel, by decide⟩
theorem sel_Co_entryNamed : Cond.selects m_Co_entryNamed.1.cls m_Co_entryNamed.1 m_Co_entryNamed.1 ∈ zG := zG_in 9 (by decide +kernel) rfl
theorem mv_Co_addEntry : MV m_Co_addEntry 1 := ⟨zG_in 516 (by decide +kernel) rfl, zG_in 50 (by decide +kernel) rfl, zG_in 517 (by decide +kernel) rfl, by decide +kernel, by decide⟩
theorem sel_Co_addEntry : Cond.selects m_Co_addEntry.1.cls m_Co_addEntry.1 m_Co_addEntry.1 ∈ zG := zG_in 10 (by decide +kernel) rfl
theorem mv_Co_putBehind : MSt m_Co_putBehind 2 := ⟨zG_in 519 (by decide +kernel) rfl, zG_in 50 (by decide +kernel) rfl, zG_in 520 (by decide +kernel) rfl, by decide +kernel, by decide⟩
theorem mv_Co_isPassedOver : MV m_Co_isPassedOver 2 := ⟨zG_in 523 (by decide +kernel) rfl, zG_in 50 (by decide +kernel) rfl, zG_in 524 (by decide +kernel) rfl, by decide +kernel, by decide⟩
theorem sel_Co_isPassedOver : Cond.selects m_Co_isPassedOver.1.cls m_Co_isPassedOver.1 m_Co_isPassedOver.1 ∈ zG := zG_in 11 (by decide +kernel) rfl
theorem mv_As_addCode : MV m_As_addCode 1 := ⟨zG_in 530 (by decide +kernel) rfl, zG_in 49 (by decide +kernel) rfl, zG_in 531 (by decide +kernel) rfl, by decide +kernel, by decide⟩
theorem sel_As_addCode : Cond.selects m_As_addCode.1.cls m_As_addCode.1 m_As_addCode.1 ∈ zG := zG_in 12 (by decide +kernel) rfl
theorem mv_Pa_goInto : MV m_Pa_goInto 1 := ⟨zG_in 533 (by decide +kernel) rfl, zG_in 51 (by decide +kernel) rfl, zG_in 535 (by decide +kernel) rfl, by decide +kernel, by decide⟩
theorem sel_Pa_goInto : Cond.selects m_Pa_goInto.1.cls m_Pa_goInto.1 m_Pa_goInto.1 ∈ zG := zG_in 534 (by decide +kernel) rfl
theorem mv_As_workOutValue : MV m_As_workOutValue 3 := ⟨zG_in 538 (by decide +kernel) rfl, zG_in 49 (by decide +kernel) rfl, zG_in 539 (by decide +kernel) rfl, by decide +kernel, by decide⟩
theorem sel_As_workOutValue : Cond.selects m_As_workOutValue.1.cls m_As_workOutValue.1 m_As_workOutValue.1 ∈ zG := zG_in 13 (by decide +kernel) rfl
theorem mv_As_workOutLink : MV m_As_workOutLink 3 := ⟨zG_in 542 (by decide +kernel) rfl, zG_in 49 (by decide +kernel) rfl, zG_in 543 (by decide +kernel) rfl, by decide +kernel, by decide⟩
theorem sel_As_workOutLink : Cond.selects m_As_workOutLink.1.cls m_As_workOutLink.1 m_As_workOutLink.1 ∈ zG := zG_in 14 (by decide +kernel) rfl
theorem mv_As_workOutNothing : MV m_As_workOutNothing 1 := ⟨zG_in 547 (by decide +kernel) rfl, zG_in 49 (by decide +kernel) rfl, zG_in 548 (by decide +kernel) rfl, by decide +kernel, by decide⟩
theorem sel_As_workOutNothing : Cond.selects m_As_workOutNothing.1.cls m_As_workOutNothing.1 m_As_workOutNothing.1 ∈ zG := zG_in 15 (by decide +kernel) rfl
theorem mv_Pa_noteHere : MV m_Pa_noteHere 0 := ⟨zG_in 550 (by decide +kernel) rfl, zG_in 51 (by decide +kernel) rfl, zG_in 552 (by decide +kernel) rfl, by decide +kernel, by decide⟩
theorem sel_Pa_noteHere : Cond.selects m_Pa_noteHere.1.cls m_Pa_noteHere.1 m_Pa_noteHere.1 ∈ zG := zG_in 551 (by decide +kernel) rfl
theorem mv_Ro_linkedRow : MV m_Ro_linkedRow 3 := ⟨zG_in 557 (by decide +kernel) rfl, zG_in 45 (by decide +kernel) rfl, zG_in 559 (by decide +kernel) rfl, by decide +kernel, by decide⟩
theorem sel_Ro_linkedRow : Cond.selects m_Ro_linkedRow.1.cls m_Ro_linkedRow.1 m_Ro_linkedRow.1 ∈ zG := zG_in 558 (by decide +kernel) rfl
theorem mv_As_workOutMany : MV m_As_workOutMany 3 := ⟨zG_in 562 (by decide +kernel) rfl, zG_in 49 (by decide +kernel) rfl, zG_in 563 (by decide +kernel) rfl, by decide +kernel, by decide⟩
theorem sel_As_workOutMany : Cond.selects m_As_workOutMany.1.cls m_As_workOutMany.1 m_As_workOutMany.1 ∈ zG := zG_in 16 (by decide +kernel) rfl
theorem mv_Pa_goOut : MV m_Pa_goOut 0 := ⟨zG_in 565 (by decide +kernel) rfl, zG_in 51 (by decide +kernel) rfl, zG_in 567 (by decide +kernel) rfl, by decide +kernel, by decide⟩
theorem sel_Pa_goOut : Cond.selects m_Pa_goOut.1.cls m_Pa_goOut.1 m_Pa_goOut.1 ∈ zG := zG_in 566 (by decide +kernel) rfl
theorem mv_As_workOutNumber : MV m_As_workOutNumber 2 := ⟨zG_in 571 (by decide +kernel) rfl, zG_in 49 (by decide +kernel) rfl, zG_in 572 (by decide +kernel) rfl, by decide +kernel, by decide⟩
theorem sel_As_workOutNumber : Cond.selects m_As_workOutNumber.1.cls m_As_workOutNumber.1 m_As_workOutNumber.1 ∈ zG := zG_in 17 (by decide +kernel) rfl
theorem mv_Ro_numberOf : MV m_Ro_numberOf 2 := ⟨zG_in 574 (by decide +kernel) rfl, zG_in 45 (by decide +kernel) rfl, zG_in 576 (by decide +kernel) rfl, by decide +kernel, by decide⟩
theorem sel_Ro_numberOf : Cond.selects m_Ro_numberOf.1.cls m_Ro_numberOf.1 m_Ro_numberOf.1 ∈ zG := zG_in 575 (by decide +kernel) rfl
theorem mv_As_cutBack : MV m_As_cutBack 1 := ⟨zG_in 579 (by decide +kernel) rfl, zG_in 49 (by decide +kernel) rfl, zG_in 580 (by decide +kernel) rfl, by decide +kernel, by decide⟩
theorem sel_As_cutBack : Cond.selects m_As_cutBack.1.cls m_As_cutBack.1 m_As_cutBack.1 ∈ zG := zG_in 18 (by decide +kernel) rfl
theorem mv_G_code : MV m_G_code 1 := ⟨zG_in 582 (by decide +kernel) rfl, zG_in 43 (by decide +kernel) rfl, zG_in 584 (by decide +kernel) rfl, by decide +kernel, by decide⟩
theorem sel_G_code : Cond.selects m_G_code.1.cls m_G_code.1 m_G_code.1 ∈ zG := zG_in 583 (by decide +kernel) rfl
theorem mv_G_missing : MV m_G_missing 2 := ⟨zG_in 586 (by decide +kernel) rfl, zG_in 43 (by decide +kernel) rfl, zG_in 588 (by decide +kernel) rfl, by decide +kernel, by decide⟩
theorem sel_G_missing : Cond.selects m_G_missing.1.cls m_G_missing.1 m_G_missing.1 ∈ zG := zG_in 587 (by decide +kernel) rfl
theorem mv_Pa_partOf : MV m_Pa_partOf 2 := ⟨zG_in 590 (by decide +kernel) rfl, zG_in 51 (by decide +kernel) rfl, zG_in 592 (by decide +kernel) rfl, by decide +kernel, by decide⟩
theorem sel_Pa_partOf : Cond.selects m_Pa_partOf.1.cls m_Pa_partOf.1 m_Pa_partOf.1 ∈ zG := zG_in 591 (by decide +kernel) rfl
theorem mv_G_count : MV m_G_count 1 := ⟨zG_in 595 (by decide +kernel) rfl, zG_in 43 (by decide +kernel) rfl, zG_in 597 (by decide +kernel) rfl, by decide +kernel, by decide⟩
theorem sel_G_count : Cond.selects m_G_count.1.cls m_G_count.1 m_G_count.1 ∈ zG := zG_in 596 (by decide +kernel) rfl
theorem mv_Mo_init : MV m_Mo_init 0 := ⟨zG_in 601 (by decide +kernel) rfl, zG_in 52 (by decide +kernel) rfl, zG_in 602 (by decide +kernel) rfl, by decide +kernel, by decide⟩
theorem mv_Mo_type : MV m_Mo_type 0 := ⟨zG_in 714 (by decide +kernel) rfl, zG_in 52 (by decide +kernel) rfl, zG_in 716 (by decide +kernel) rfl, by decide +kernel, by decide⟩
theorem sel_Mo_type : Cond.selects m_Mo_type.1.cls m_Mo_type.1 m_Mo_type.1 ∈ zG := zG_in 715 (by decide +kernel) rfl
theorem mv_Mo_field : MV m_Mo_field 4 := ⟨zG_in 718 (by decide +kernel) rfl, zG_in 52 (by decide +kernel) rfl, zG_in 720 (by decide +kernel) rfl, by decide +kernel, by decide⟩
theorem sel_Mo_field : Cond.selects m_Mo_field.1.cls m_Mo_field.1 m_Mo_field.1 ∈ zG := zG_in 719 (by decide +kernel) rfl
theorem mv_Mo_in : MSt m_Mo_in 3 := ⟨zG_in 722 (by decide +kernel) rfl, zG_in 52 (by decide +kernel) rfl, zG_in 723 (by decide +kernel) rfl, by decide +kernel, by decide⟩
theorem mv_Mo_row : MV m_Mo_row 1 := ⟨zG_in 725 (by decide +kernel) rfl, zG_in 52 (by decide +kernel) rfl, zG_in 727 (by decide +kernel) rfl, by decide +kernel, by decide⟩
theorem sel_Mo_row : Cond.selects m_Mo_row.1.cls m_Mo_row.1 m_Mo_row.1 ∈ zG := zG_in 726 (by decide +kernel) rfl
theorem mv_Mo_put : MV m_Mo_put 3 := ⟨zG_in 729 (by decide +kernel) rfl, zG_in 52 (by decide +kernel) rfl, zG_in 731 (by decide +kernel) rfl, by decide +kernel, by decide⟩
theorem sel_Mo_put : Cond.selects m_Mo_put.1.cls m_Mo_put.1 m_Mo_put.1 ∈ zG := zG_in 730 (by decide +kernel) rfl
theorem mv_Mo_badField : MV m_Mo_badField 2 := ⟨zG_in 734 (by decide +kernel) rfl, zG_in 52 (by decide +kernel) rfl, zG_in 735 (by decide +kernel) rfl, by decide +kernel, by decide⟩
theorem sel_Mo_badField : Cond.selects m_Mo_badField.1.cls m_Mo_badField.1 m_Mo_badField.1 ∈ zG := zG_in 19 (by decide +kernel) rfl
theorem mv_Mo_of : MV m_Mo_of 3 := ⟨zG_in 738 (by decide +kernel) rfl, zG_in 52 (by decide +kernel) rfl, zG_in 739 (by decide +kernel) rfl, by decide +kernel, by decide⟩
theorem sel_Mo_of : Cond.selects m_Mo_of.1.cls m_Mo_of.1 m_Mo_of.1 ∈ zG := zG_in 20 (by decide +kernel) rfl
theorem mv_Mo_link : MV m_Mo_link 3 := ⟨zG_in 741 (by decide +kernel) rfl, zG_in 52 (by decide +kernel) rfl, zG_in 743 (by decide +kernel) rfl, by decide +kernel, by decide⟩
theorem sel_Mo_link : Cond.selects m_Mo_link.1.cls m_Mo_link.1 m_Mo_link.1 ∈ zG := zG_in 742 (by decide +kernel) rfl
theorem mv_Mo_clear : MV m_Mo_clear 2 := ⟨zG_in 745 (by decide +kernel) rfl, zG_in 52 (by decide +kernel) rfl, zG_in 747 (by decide +kernel) rfl, by decide +kernel, by decide⟩
theorem sel_Mo_clear : Cond.selects m_Mo_clear.1.cls m_Mo_clear.1 m_Mo_clear.1 ∈ zG := zG_in 746 (by decide +kernel) rfl
theorem mv_Mo_set : MV m_Mo_set 2 := ⟨zG_in 749 (by decide +kernel) rfl, zG_in 52 (by decide +kernel) rfl, zG_in 751 (by decide +kernel) rfl, by decide +kernel, by decide⟩
theorem sel_Mo_set : Cond.selects m_Mo_set.1.cls m_Mo_set.1 m_Mo_set.1 ∈ zG := zG_in 750 (by decide +kernel) rfl
theorem mv_Mo_token : MV m_Mo_token 4 := ⟨zG_in 753 (by decide +kernel) rfl, zG_in 52 (by decide +kernel) rfl, zG_in 755 (by decide +kernel) rfl, by decide +kernel, by decide⟩
theorem sel_Mo_token : Cond.selects m_Mo_token.1.cls m_Mo_token.1 m_Mo_token.1 ∈ zG := zG_in 754 (by decide +kernel) rfl
theorem mv_Mo_fits : MSt m_Mo_fits 3 := ⟨zG_in 757 (by decide +kernel) rfl, zG_in 52 (by decide +kernel) rfl, zG_in 758 (by decide +kernel) rfl, by decide +kernel, by decide⟩
theorem mv_Mo_wipe : MV m_Mo_wipe 1 := ⟨zG_in 760 (by decide +kernel) rfl, zG_in 52 (by decide +kernel) rfl, zG_in 762 (by decide +kernel) rfl, by decide +kernel, by decide⟩
theorem sel_Mo_wipe : Cond.selects m_Mo_wipe.1.cls m_Mo_wipe.1 m_Mo_wipe.1 ∈ zG := zG_in 761 (by decide +kernel) rfl
theorem mv_Mo_check : MV m_Mo_check 1 := ⟨zG_in 764 (by decide +kernel) rfl, zG_in 52 (by decide +kernel) rfl, zG_in 766 (by decide +kernel) rfl, by decide +kernel, by decide⟩
theorem sel_Mo_check : Cond.selects m_Mo_check.1.cls m_Mo_check.1 m_Mo_check.1 ∈ zG := zG_in 765 (by decide +kernel) rfl
theorem mv_Mo_checked : MV m_Mo_checked 1 := ⟨zG_in 769 (by decide +kernel) rfl, zG_in 52 (by decide +kernel) rfl, zG_in 770 (by decide +kernel) rfl, by decide +kernel, by decide⟩
theorem sel_Mo_checked : Cond.selects m_Mo_checked.1.cls m_Mo_checked.1 m_Mo_checked.1 ∈ zG := zG_in 21 (by decide +kernel) rfl
theorem mv_Mo_good : MV m_Mo_good 1 := ⟨zG_in 773 (by decide +kernel) rfl, zG_in 52 (by decide +kernel) rfl, zG_in 774 (by decide +kernel) rfl, by decide +kernel, by decide⟩
theorem sel_Mo_good : Cond.selects m_Mo_good.1.cls m_Mo_good.1 m_Mo_good.1 ∈ zG := zG_in 22 (by decide +kernel) rfl
theorem mv_Mo_opens : MV m_Mo_opens 1 := ⟨zG_in 777 (by decide +kernel) rfl, zG_in 52 (by decide +kernel) rfl, zG_in 778 (by decide +kernel) rfl, by decide +kernel, by decide⟩
theorem sel_Mo_opens : Cond.selects m_Mo_opens.1.cls m_Mo_opens.1 m_Mo_opens.1 ∈ zG := zG_in 23 (by decide +kernel) rfl
theorem mv_Mo_enter : MV m_Mo_enter 2 := ⟨zG_in 781 (by decide +kernel) rfl, zG_in 52 (by decide +kernel) rfl, zG_in 782 (by decide +kernel) rfl, by decide +kernel, by decide⟩
theorem sel_Mo_enter : Cond.selects m_Mo_enter.1.cls m_Mo_enter.1 m_Mo_enter.1 ∈ zG := zG_in 24 (by decide +kernel) rfl
theorem mv_Mo_right : MV m_Mo_right 2 := ⟨zG_in 785 (by decide +kernel) rfl, zG_in 52 (by decide +kernel) rfl, zG_in 786 (by decide +kernel) rfl, by decide +kernel, by decide⟩
theorem sel_Mo_right : Cond.selects m_Mo_right.1.cls m_Mo_right.1 m_Mo_right.1 ∈ zG := zG_in 25 (by decide +kernel) rfl
theorem mv_Mo_fieldRight : MV m_Mo_fieldRight 2 := ⟨zG_in 789 (by decide +kernel) rfl, zG_in 52 (by decide +kernel) rfl, zG_in 790 (by decide +kernel) rfl, by decide +kernel, by decide⟩
theorem sel_Mo_fieldRight : Cond.selects m_Mo_fieldRight.1.cls m_Mo_fieldRight.1 m_Mo_fieldRight.1 ∈ zG := zG_in 26 (by decide +kernel) rfl
theorem mv_Mo_through : MV m_Mo_through 1 := ⟨zG_in 793 (by decide +kernel) rfl, zG_in 52 (by decide +kernel) rfl, zG_in 794 (by decide +kernel) rfl, by decide +kernel, by decide⟩
theorem sel_Mo_through : Cond.selects m_Mo_through.1.cls m_Mo_through.1 m_Mo_through.1 ∈ zG := zG_in 27 (by decide +kernel) rfl
theorem mv_Mo_place : MV m_Mo_place 0 := ⟨zG_in 796 (by decide +kernel) rfl, zG_in 52 (by decide +kernel) rfl, zG_in 798 (by decide +kernel) rfl, by decide +kernel, by decide⟩
theorem sel_Mo_place : Cond.selects m_Mo_place.1.cls m_Mo_place.1 m_Mo_place.1 ∈ zG := zG_in 797 (by decide +kernel) rfl
theorem mv_Mo_ask : MV m_Mo_ask 1 := ⟨zG_in 800 (by decide +kernel) rfl, zG_in 52 (by decide +kernel) rfl, zG_in 802 (by decide +kernel) rfl, by decide +kernel, by decide⟩
theorem sel_Mo_ask : Cond.selects m_Mo_ask.1.cls m_Mo_ask.1 m_Mo_ask.1 ∈ zG := zG_in 801 (by decide +kernel) rfl
theorem mv_Mo_begin : MV m_Mo_begin 1 := ⟨zG_in 805 (by decide +kernel) rfl, zG_in 52 (by decide +kernel) rfl, zG_in 806 (by decide +kernel) rfl, by decide +kernel, by decide⟩
theorem sel_Mo_begin : Cond.selects m_Mo_begin.1.cls m_Mo_begin.1 m_Mo_begin.1 ∈ zG := zG_in 28 (by decide +kernel) rfl
theorem mv_Mo_collectOne : MV m_Mo_collectOne 2 := ⟨zG_in 809 (by decide +kernel) rfl, zG_in 52 (by decide +kernel) rfl, zG_in 810 (by decide +kernel) rfl, by decide +kernel, by decide⟩
theorem sel_Mo_collectOne : Cond.selects m_Mo_collectOne.1.cls m_Mo_collectOne.1 m_Mo_collectOne.1 ∈ zG := zG_in 29 (by decide +kernel) rfl
theorem mv_Mo_take : MV m_Mo_take 2 := ⟨zG_in 813 (by decide +kernel) rfl, zG_in 52 (by decide +kernel) rfl, zG_in 814 (by decide +kernel) rfl, by decide +kernel, by decide⟩
theorem sel_Mo_take : Cond.selects m_Mo_take.1.cls m_Mo_take.1 m_Mo_take.1 ∈ zG := zG_in 30 (by decide +kernel) rfl
theorem mv_Mo_addSet : MV m_Mo_addSet 3 := ⟨zG_in 817 (by decide +kernel) rfl, zG_in 52 (by decide +kernel) rfl, zG_in 818 (by decide +kernel) rfl, by decide +kernel, by decide⟩
theorem sel_Mo_addSet : Cond.selects m_Mo_addSet.1.cls m_Mo_addSet.1 m_Mo_addSet.1 ∈ zG := zG_in 31 (by decide +kernel) rfl
theorem mv_Mo_behind : MV m_Mo_behind 1 := ⟨zG_in 821 (by decide +kernel) rfl, zG_in 52 (by decide +kernel) rfl, zG_in 822 (by decide +kernel) rfl, by decide +kernel, by decide⟩
theorem sel_Mo_behind : Cond.selects m_Mo_behind.1.cls m_Mo_behind.1 m_Mo_behind.1 ∈ zG := zG_in 32 (by decide +kernel) rfl
theorem mv_Mo_say : MV m_Mo_say 1 := ⟨zG_in 825 (by decide +kernel) rfl, zG_in 52 (by decide +kernel) rfl, zG_in 826 (by decide +kernel) rfl, by decide +kernel, by decide⟩
theorem sel_Mo_say : Cond.selects m_Mo_say.1.cls m_Mo_say.1 m_Mo_say.1 ∈ zG := zG_in 33 (by decide +kernel) rfl
theorem mv_Mo_step : MV m_Mo_step 0 := ⟨zG_in 829 (by decide +kernel) rfl, zG_in 52 (by decide +kernel) rfl, zG_in 830 (by decide +kernel) rfl, by decide +kernel, by decide⟩
theorem sel_Mo_step : Cond.selects m_Mo_step.1.cls m_Mo_step.1 m_Mo_step.1 ∈ zG := zG_in 34 (by decide +kernel) rfl
theorem mv_Mo_endObject : MV m_Mo_endObject 0 := ⟨zG_in 833 (by decide +kernel) rfl, zG_in 52 (by decide +kernel) rfl, zG_in 834 (by decide +kernel) rfl, by decide +kernel, by decide⟩
theorem sel_Mo_endObject : Cond.selects m_Mo_endObject.1.cls m_Mo_endObject.1 m_Mo_endObject.1 ∈ zG := zG_in 35 (by decide +kernel) rfl
theorem mv_Mo_nothing : MV m_Mo_nothing 2 := ⟨zG_in 837 (by decide +kernel) rfl, zG_in 52 (by decide +kernel) rfl, zG_in 838 (by decide +kernel) rfl, by decide +kernel, by decide⟩
theorem sel_Mo_nothing : Cond.selects m_Mo_nothing.1.cls m_Mo_nothing.1 m_Mo_nothing.1 ∈ zG := zG_in 36 (by decide +kernel) rfl
theorem mv_Mo_entry : MV m_Mo_entry 1 := ⟨zG_in 841 (by decide +kernel) rfl, zG_in 52 (by decide +kernel) rfl, zG_in 842 (by decide +kernel) rfl, by decide +kernel, by decide⟩
theorem sel_Mo_entry : Cond.selects m_Mo_entry.1.cls m_Mo_entry.1 m_Mo_entry.1 ∈ zG := zG_in 37 (by decide +kernel) rfl
theorem mv_Mo_note : MV m_Mo_note 0 := ⟨zG_in 845 (by decide +kernel) rfl, zG_in 52 (by decide +kernel) rfl, zG_in 846 (by decide +kernel) rfl, by decide +kernel, by decide⟩
theorem sel_Mo_note : Cond.selects m_Mo_note.1.cls m_Mo_note.1 m_Mo_note.1 ∈ zG := zG_in 38 (by decide +kernel) rfl
theorem mv_Mo_kindAt : MV m_Mo_kindAt 1 := ⟨zG_in 849 (by decide +kernel) rfl, zG_in 52 (by decide +kernel) rfl, zG_in 850 (by decide +kernel) rfl, by decide +kernel, by decide⟩
theorem sel_Mo_kindAt : Cond.selects m_Mo_kindAt.1.cls m_Mo_kindAt.1 m_Mo_kindAt.1 ∈ zG := zG_in 39 (by decide +kernel) rfl
theorem mv_Mo_manyStep : MV m_Mo_manyStep 1 := ⟨zG_in 853 (by decide +kernel) rfl, zG_in 52 (by decide +kernel) rfl, zG_in 854 (by decide +kernel) rfl, by decide +kernel, by decide⟩
theorem sel_Mo_manyStep : Cond.selects m_Mo_manyStep.1.cls m_Mo_manyStep.1 m_Mo_manyStep.1 ∈ zG := zG_in 40 (by decide +kernel) rfl
theorem mv_Mo_plain : MV m_Mo_plain 2 := ⟨zG_in 857 (by decide +kernel) rfl, zG_in 52 (by decide +kernel) rfl, zG_in 858 (by decide +kernel) rfl, by decide +kernel, by decide⟩
theorem sel_Mo_plain : Cond.selects m_Mo_plain.1.cls m_Mo_plain.1 m_Mo_plain.1 ∈ zG := zG_in 41 (by decide +kernel) rfl
theorem mv_Mo_code : MV m_Mo_code 1 := ⟨zG_in 860 (by decide +kernel) rfl, zG_in 52 (by decide +kernel) rfl, zG_in 862 (by decide +kernel) rfl, by decide +kernel, by decide⟩
theorem sel_Mo_code : Cond.selects m_Mo_code.1.cls m_Mo_code.1 m_Mo_code.1 ∈ zG := zG_in 861 (by decide +kernel) rfl
theorem mv_Mo_missing : MV m_Mo_missing 2 := ⟨zG_in 864 (by decide +kernel) rfl, zG_in 52 (by decide +kernel) rfl, zG_in 866 (by decide +kernel) rfl, by decide +kernel, by decide⟩
theorem sel_Mo_missing : Cond.selects m_Mo_missing.1.cls m_Mo_missing.1 m_Mo_missing.1 ∈ zG := zG_in 865 (by decide +kernel) rfl
theorem mv_Mo_count : MV m_Mo_count 1 := ⟨zG_in 868 (by decide +kernel) rfl, zG_in 52 (by decide +kernel) rfl, zG_in 870 (by decide +kernel) rfl, by decide +kernel, by decide⟩
theorem sel_Mo_count : Cond.selects m_Mo_count.1.cls m_Mo_count.1 m_Mo_count.1 ∈ zG := zG_in 869 (by decide +kernel) rfl
theorem hq_G : vwCl[0]? = some (R_G, T_G, 6) ∧ 0 < 100 := ⟨rfl, by decide⟩
theorem hq_Sc : vwCl[1]? = some (R_Sc, T_Sc, 5) ∧ 1 < 100 := ⟨rfl, by decide⟩
theorem hq_Ro : vwCl[2]? = some (R_Ro, T_Ro, 5) ∧ 2 < 100 := ⟨rfl, by decide⟩
theorem hq_Te : vwCl[3]? = some (R_Te, T_Te, 4) ∧ 3 < 100 := ⟨rfl, by decide⟩
theorem hq_Pl : vwCl[4]? = some (R_Pl, T_Pl, 6) ∧ 4 < 100 := ⟨rfl, by decide⟩
theorem hq_St : vwCl[5]? = some (R_St, T_St, 11) ∧ 5 < 100 := ⟨rfl, by decide⟩
theorem hq_Co : vwCl[6]? = some (R_Co, T_Co, 5) ∧ 6 < 100 := ⟨rfl, by decide⟩
theorem hq_Pa : vwCl[7]? = some (R_Pa, T_Pa, 5) ∧ 7 < 100 := ⟨rfl, by decide⟩
theorem hq_As : vwCl[8]? = some (R_As, T_As, 7) ∧ 8 < 100 := ⟨rfl, by decide⟩
theorem hq_Mo : vwCl[9]? = some (R_Mo, T_Mo, 36) ∧ 9 < 100 := ⟨rfl, by decide⟩
theorem zi_Math : Cond.initialized "java/lang/Math" ∈ zG := zG_in 53 (by decide +kernel) rfl
theorem zi_System : Cond.initialized "java/lang/System" ∈ zG := zG_in 54 (by decide +kernel) rfl
theorem zo_inst : Cond.instanceMethod Lib.objectInit ∈ zG := zG_in 61 (by decide +kernel) rfl
theorem zs_max : Cond.static Lib.Math.max.name ∈ zG := zG_in 526 (by decide +kernel) rfl
theorem zs_arraycopy : Cond.static arraycopyName ∈ zG := zG_in 554 (by decide +kernel) rfl
theorem zn_arraycopy : Cond.native arraycopyName ∈ zG := zG_in 555 (by decide +kernel) rfl
theorem zo_code : Cond.code Lib.objectInit ⟨#[0xb1]⟩ 1 none ∈ zG := zG_in 62 (by decide +kernel) rfl
theorem zc_max : Cond.code Lib.Math.max.name Lib.Math.max.code 2 (some .int) ∈ zG := zG_in 527 (by decide +kernel) rfl
theorem za_int : Cond.arrayClass .int ∈ zG := zG_in 87 (by decide +kernel) rfl
theorem za_bool : Cond.arrayClass .boolean ∈ zG := zG_in 88 (by decide +kernel) rfl
end
section
theorem kk_i (i : Int) : fx_kk 100 i = false := by
  unfold fx_kk
  split
  · rfl
  · rfl
theorem kk_z (i : Int) : fx_kk 101 i = false := by
  unfold fx_kk
  split
  · rfl
  · rfl
theorem kk_st {i : Int} (h : 0 ≤ i ∧ i < 61) : fx_kk 102 i = true := by
  unfold fx_kk
  rw [if_neg (by omega), if_pos rfl]
  exact decide_eq_true h.2
section MORE
variable {X : Cx} {b0 : Nat} {D : DD} {kc ks : Nat} {Q : State → Prop} {n : Nat} {M : Mem} {pc : Nat} {la : List (Option AV)} {st : List AV} {cc : ByteArray} {own : String} {nL : Nat} {ret : Option FieldType} {l : Launch} {rk mcR msR : Nat}
theorem A_VF1 {idx na r' : Nat} {md : MD} {as st0 : List AV} {c : Int} {v : AV} {M1 : Mem} (hC : CX X b0 D cc own nL ret l rk mcR msR) (hd : decode cc pc = .ok (.invokevirtual idx, 3)) (hmv : MV md na) (hlk : Cond.methodLink own idx md.1 ∈ zG) (hr : r' < rk) (hsel : Cond.selects md.1.cls md.1 md.1 ∈ zG) {ci N : Nat} {T : u_T} (hq : vwCl[ci]? = some (md.1.cls, T, N) ∧ ci < 100) (hly : fx_ly c = (ci, N)) (hc : 0 ≤ c ∧ c < n) (hM : AF l md r' (.inr c :: as) n M (some v) M1) (hst : as.reverse ++ .inr c :: st = st0) (hna : as.length = na) (h8 : st.length ≤ 8) (hf : kc ≤ mcR ∧ ks ≤ msR) (hlen : la.length = nL) (kk : AW X b0 D true kc ks Q n M1 (pc + 3) la (v :: st)) : AW X b0 D true kc ks Q n M pc la st0 := A_VF hC hd hmv hlk hr hsel hq hly hc hM hst hna h8 hf hlen kk
theorem A_VF0 {idx na r' : Nat} {md : MD} {as st0 : List AV} {c : Int} {M1 : Mem} (hC : CX X b0 D cc own nL ret l rk mcR msR) (hd : decode cc pc = .ok (.invokevirtual idx, 3)) (hmv : MV md na) (hlk : Cond.methodLink own idx md.1 ∈ zG) (hr : r' < rk) (hsel : Cond.selects md.1.cls md.1 md.1 ∈ zG) {ci N : Nat} {T : u_T} (hq : vwCl[ci]? = some (md.1.cls, T, N) ∧ ci < 100) (hly : fx_ly c = (ci, N)) (hc : 0 ≤ c ∧ c < n) (hM : AF l md r' (.inr c :: as) n M none M1) (hst : as.reverse ++ .inr c :: st = st0) (hna : as.length = na) (h8 : st.length ≤ 8) (hf : kc ≤ mcR ∧ ks ≤ msR) (hlen : la.length = nL) (kk : AW X b0 D true kc ks Q n M1 (pc + 3) la st) : AW X b0 D true kc ks Q n M pc la st0 := A_VF hC hd hmv hlk hr hsel hq hly hc hM hst hna h8 hf hlen kk
theorem A_VNF1 {idx na r' : Nat} {host : String} {md : MD} {as st0 : List AV} {c : Int} {v : AV} {M1 : Mem} (hC : CX X b0 D cc own nL ret l rk mcR msR) (hd : decode cc pc = .ok (.invokevirtual idx, 3)) (hmv : MV md na) (hlk : (own, idx, md.1, host) ∈ fx_nest) (hr : r' < rk) (hsel : Cond.selects md.1.cls md.1 md.1 ∈ zG) {ci N : Nat} {T : u_T} (hq : vwCl[ci]? = some (md.1.cls, T, N) ∧ ci < 100) (hly : fx_ly c = (ci, N)) (hc : 0 ≤ c ∧ c < n) (hM : AF l md r' (.inr c :: as) n M (some v) M1) (hst : as.reverse ++ .inr c :: st = st0) (hna : as.length = na) (h8 : st.length ≤ 8) (hf : kc ≤ mcR ∧ ks ≤ msR) (hlen : la.length = nL) (kk : AW X b0 D true kc ks Q n M1 (pc + 3) la (v :: st)) : AW X b0 D true kc ks Q n M pc la st0 := A_VNF hC hd hmv hlk hr hsel hq hly hc hM hst hna h8 hf hlen kk
theorem A_VNF0 {idx na r' : Nat} {host : String} {md : MD} {as st0 : List AV} {c : Int} {M1 : Mem} (hC : CX X b0 D cc own nL ret l rk mcR msR) (hd : decode cc pc = .ok (.invokevirtual idx, 3)) (hmv : MV md na) (hlk : (own, idx, md.1, host) ∈ fx_nest) (hr : r' < rk) (hsel : Cond.selects md.1.cls md.1 md.1 ∈ zG) {ci N : Nat} {T : u_T} (hq : vwCl[ci]? = some (md.1.cls, T, N) ∧ ci < 100) (hly : fx_ly c = (ci, N)) (hc : 0 ≤ c ∧ c < n) (hM : AF l md r' (.inr c :: as) n M none M1) (hst : as.reverse ++ .inr c :: st = st0) (hna : as.length = na) (h8 : st.length ≤ 8) (hf : kc ≤ mcR ∧ ks ≤ msR) (hlen : la.length = nL) (kk : AW X b0 D true kc ks Q n M1 (pc + 3) la st) : AW X b0 D true kc ks Q n M pc la st0 := A_VNF hC hd hmv hlk hr hsel hq hly hc hM hst hna h8 hf hlen kk
theorem A_SF1 {idx na r' : Nat} {md : MD} {as st0 : List AV} {v : AV} {M1 : Mem} (hC : CX X b0 D cc own nL ret l rk mcR msR) (hd : decode cc pc = .ok (.invokestatic idx, 3)) (hmv : MSt md na) (hlk : Cond.methodLink own idx md.1 ∈ zG) (hr : r' < rk) (hM : AF l md r' as n M (some v) M1) (hst : as.reverse ++ st = st0) (hna : as.length = na) (h8 : st.length ≤ 8) (hf : kc ≤ mcR ∧ ks ≤ msR) (hlen : la.length = nL) (kk : AW X b0 D true kc ks Q n M1 (pc + 3) la (v :: st)) : AW X b0 D true kc ks Q n M pc la st0 := A_SF hC hd hmv hlk hr hM hst hna h8 hf hlen kk
theorem A_SF0 {idx na r' : Nat} {md : MD} {as st0 : List AV} {M1 : Mem} (hC : CX X b0 D cc own nL ret l rk mcR msR) (hd : decode cc pc = .ok (.invokestatic idx, 3)) (hmv : MSt md na) (hlk : Cond.methodLink own idx md.1 ∈ zG) (hr : r' < rk) (hM : AF l md r' as n M none M1) (hst : as.reverse ++ st = st0) (hna : as.length = na) (h8 : st.length ≤ 8) (hf : kc ≤ mcR ∧ ks ≤ msR) (hlen : la.length = nL) (kk : AW X b0 D true kc ks Q n M1 (pc + 3) la st) : AW X b0 D true kc ks Q n M pc la st0 := A_SF hC hd hmv hlk hr hM hst hna h8 hf hlen kk
theorem A_SNF1 {idx na r' : Nat} {host : String} {md : MD} {as st0 : List AV} {v : AV} {M1 : Mem} (hC : CX X b0 D cc own nL ret l rk mcR msR) (hd : decode cc pc = .ok (.invokestatic idx, 3)) (hmv : MSt md na) (hlk : (own, idx, md.1, host) ∈ fx_nest) (hr : r' < rk) (hM : AF l md r' as n M (some v) M1) (hst : as.reverse ++ st = st0) (hna : as.length = na) (h8 : st.length ≤ 8) (hf : kc ≤ mcR ∧ ks ≤ msR) (hlen : la.length = nL) (kk : AW X b0 D true kc ks Q n M1 (pc + 3) la (v :: st)) : AW X b0 D true kc ks Q n M pc la st0 := A_SNF hC hd hmv hlk hr hM hst hna h8 hf hlen kk
theorem A_SNF0 {idx na r' : Nat} {host : String} {md : MD} {as st0 : List AV} {M1 : Mem} (hC : CX X b0 D cc own nL ret l rk mcR msR) (hd : decode cc pc = .ok (.invokestatic idx, 3)) (hmv : MSt md na) (hlk : (own, idx, md.1, host) ∈ fx_nest) (hr : r' < rk) (hM : AF l md r' as n M none M1) (hst : as.reverse ++ st = st0) (hna : as.length = na) (h8 : st.length ≤ 8) (hf : kc ≤ mcR ∧ ks ≤ msR) (hlen : la.length = nL) (kk : AW X b0 D true kc ks Q n M1 (pc + 3) la st) : AW X b0 D true kc ks Q n M pc la st0 := A_SNF hC hd hmv hlk hr hM hst hna h8 hf hlen kk
theorem A_ialdE {N : Nat} {c i x : Int} (hC : CX X b0 D cc own nL ret l rk mcR msR) (hd : decode cc pc = .ok (.iaload, 1)) (hly : fx_ly c = (100, N)) (hc : 0 ≤ c ∧ c < n) (hi : 0 ≤ i ∧ i < N) (hx : M c i = x) (kk : AW X b0 D true kc ks Q n M (pc + 1) la (.inl x :: st)) : AW X b0 D true kc ks Q n M pc la (.inl i :: .inr c :: st) := A_iald hC hd hly hc hi (by rw [hx]; exact kk)
theorem A_zaldE {N : Nat} {c i x : Int} (hC : CX X b0 D cc own nL ret l rk mcR msR) (hd : decode cc pc = .ok (.baload, 1)) (hly : fx_ly c = (101, N)) (hc : 0 ≤ c ∧ c < n) (hi : 0 ≤ i ∧ i < N) (hx : M c i = x) (kk : AW X b0 D true kc ks Q n M (pc + 1) la (.inl x :: st)) : AW X b0 D true kc ks Q n M pc la (.inl i :: .inr c :: st) := A_zald hC hd hly hc hi (by rw [hx]; exact kk)
theorem A_getIE {idx ci k N : Nat} {c kI x : Int} (hC : CX X b0 D cc own nL ret l rk mcR msR) (hd : decode cc pc = .ok (.getfield idx, 3)) (hF : fx_F own idx ci k N) (hI : ci < 100 ∧ fx_isr ci k = false) (hkI : (k : Int) = kI) (hly : fx_ly c = (ci, N)) (hc : 0 ≤ c ∧ c < n) (hx : M c kI = x) (kk : AW X b0 D true kc ks Q n M (pc + 3) la (.inl x :: st)) : AW X b0 D true kc ks Q n M pc la (.inr c :: st) := A_getI hC hd hF hI hkI hly hc (by rw [hx]; exact kk)
theorem A_getRE {idx ci k N : Nat} {c kI x : Int} (hC : CX X b0 D cc own nL ret l rk mcR msR) (hd : decode cc pc = .ok (.getfield idx, 3)) (hF : fx_F own idx ci k N) (hI : ci < 100 ∧ fx_isr ci k = true) (hkI : (k : Int) = kI) (hly : fx_ly c = (ci, N)) (hc : 0 ≤ c ∧ c < n) (hx : M c kI = x) (kk : AW X b0 D true kc ks Q n M (pc + 3) la (.inr x :: st)) : AW X b0 D true kc ks Q n M pc la (.inr c :: st) := A_getR hC hd hF hI hkI hly hc (by rw [hx]; exact kk)
theorem A_eqi {a b : Int} (h : a = b) (k : AW X b0 D true kc ks Q n M pc la (.inl b :: st)) : AW X b0 D true kc ks Q n M pc la (.inl a :: st) := by rw [h]; exact k
theorem A_eqr {a b : Int} (h : a = b) (k : AW X b0 D true kc ks Q n M pc la (.inr b :: st)) : AW X b0 D true kc ks Q n M pc la (.inr a :: st) := by rw [h]; exact k
theorem cpy_nc {M : Mem} {c1 sp c2 dp k c j : Int} (h : c ≠ c2) : cpy M c1 sp c2 dp k c j = M c j := by unfold cpy; rw [if_neg (fun e => h e.1)]
theorem fx_r {a b : Int} (h : a = b) : (some (.inl a) : Option AV) = some (.inl b) := by rw [h]
theorem fx_rr {a b : Int} (h : a = b) : (some (.inr a) : Option AV) = some (.inr b) := by rw [h]
end MORE
end
section
abbrev tokP (op a b : Int) : Prop := ((op = 0 ∨ op = 1) ∧ (0 ≤ a ∧ a ≤ 9) ∧ 0 ≤ b ∧ b ≤ 3) ∨ (op = 2 ∧ 0 ≤ a ∧ a ≤ 9) ∨ (op = 3 ∧ 0 ≤ a ∧ a ≤ 4) ∨ (op = 4 ∧ (0 ≤ a ∧ a ≤ 3) ∧ 0 ≤ b ∧ b ≤ 1) ∨ (op = 5 ∧ 1 ≤ a ∧ a ≤ 3) ∨ op = 6
abbrev opnP (op : Int) : Prop := op = 1 ∨ op = 3 ∨ op = 4
set_option maxHeartbeats 4000000 in
theorem k_G_isWithin (l : Launch) (n : Nat) (M : Mem) (hn : 117 ≤ n) (x lo hi : Int) : AF l m_G_isWithin 1 [.inl x, .inl lo, .inl hi] n M (some (.inl (if lo ≤ x ∧ x ≤ hi then 1 else 0))) M := by
  refine AM_intro (by decide) (Nat.le_of_ble_eq_true rfl) (fun X b0 D hC _ => ?_)
  show AW X b0 D true 0 0 _ n M 0 [some (.inl x), some (.inl lo), some (.inl hi)] []
  refine A_ild0 hC d_G_isWithin_0 ?_
  refine A_ild1 hC d_G_isWithin_1 ?_
  refine A_icmplt (tgt := 14) hC d_G_isWithin_2 (by decide) (fun h2 => ?_) (fun h2 => ?_)
  · refine A_iconst hC d_G_isWithin_14 (by decide) ?_
    refine A_zret hC d_G_isWithin_15 rfl (Nat.le_refl _) (Nat.le_refl _) (by first | decide | omega) ?_
    exact ⟨fx_r (by split <;> omega), rfl, rfl⟩
  · refine A_ild0 hC d_G_isWithin_5 ?_
    refine A_ild2 hC d_G_isWithin_6 ?_
    refine A_icmpgt (tgt := 14) hC d_G_isWithin_7 (by decide) (fun h7 => ?_) (fun h7 => ?_)
    · refine A_iconst hC d_G_isWithin_14 (by decide) ?_
      refine A_zret hC d_G_isWithin_15 rfl (Nat.le_refl _) (Nat.le_refl _) (by first | decide | omega) ?_
      exact ⟨fx_r (by split <;> omega), rfl, rfl⟩
    · refine A_iconst hC d_G_isWithin_10 (by decide) ?_
      refine A_goto (tgt := 15) hC d_G_isWithin_11 (by decide) ?_
      refine A_zret hC d_G_isWithin_15 rfl (Nat.le_refl _) (Nat.le_refl _) (by first | decide | omega) ?_
      exact ⟨fx_r (by split <;> omega), rfl, rfl⟩
set_option maxHeartbeats 4000000 in
theorem k_G_isTokenInRange (l : Launch) (n : Nat) (M : Mem) (hn : 117 ≤ n) (op a b : Int) : AF l m_G_isTokenInRange 2 [.inl op, .inl a, .inl b] n M (some (.inl (if tokP op a b then 1 else 0))) M := by
  refine AM_intro (by decide) (Nat.le_of_ble_eq_true rfl) (fun X b0 D hC _ => ?_)
  show AW X b0 D true 0 0 _ n M 0 [some (.inl op), some (.inl a), some (.inl b)] []
  refine A_ild0 hC d_G_isTokenInRange_0 ?_
  refine A_tsw (td := 111) [40, 40, 65, 73, 80, 104] hC d_G_isTokenInRange_1 (by decide) (by decide) (by decide) ⟨fun h1 => ?_, fun h1 => ?_, fun h1 => ?_, fun h1 => ?_, fun h1 => ?_, fun h1 => ?_, trivial⟩ (fun h1 => ?_)
  · refine A_ild1 hC d_G_isTokenInRange_40 ?_
    refine A_iconst hC d_G_isTokenInRange_41 (by decide) ?_
    refine A_bipush hC d_G_isTokenInRange_42 (by decide) (by decide) ?_
    refine A_SF1 (as := [.inl a, .inl 0, .inl 9]) hC d_G_isTokenInRange_44 mv_G_isWithin lk_G_72 (by decide) (k_G_isWithin l n M hn a 0 9) rfl rfl (Nat.le_of_ble_eq_true rfl) ⟨Nat.zero_le _, Nat.zero_le _⟩ rfl ?_
    refine A_ifeq (tgt := 63) hC d_G_isTokenInRange_47 (by decide) (fun h47 => ?_) (fun h47 => ?_)
    · refine A_iconst hC d_G_isTokenInRange_63 (by decide) ?_
      refine A_zret hC d_G_isTokenInRange_64 rfl (Nat.le_refl _) (Nat.le_refl _) (by first | decide | omega) ?_
      exact ⟨fx_r (by split <;> omega), rfl, rfl⟩
    · refine A_ild2 hC d_G_isTokenInRange_50 ?_
      refine A_iconst hC d_G_isTokenInRange_51 (by decide) ?_
      refine A_iconst hC d_G_isTokenInRange_52 (by decide) ?_
      refine A_SF1 (as := [.inl b, .inl 0, .inl 3]) hC d_G_isTokenInRange_53 mv_G_isWithin lk_G_72 (by decide) (k_G_isWithin l n M hn b 0 3) rfl rfl (Nat.le_of_ble_eq_true rfl) ⟨Nat.zero_le _, Nat.zero_le _⟩ rfl ?_
      refine A_ifeq (tgt := 63) hC d_G_isTokenInRange_56 (by decide) (fun h56 => ?_) (fun h56 => ?_)
      · refine A_iconst hC d_G_isTokenInRange_63 (by decide) ?_
        refine A_zret hC d_G_isTokenInRange_64 rfl (Nat.le_refl _) (Nat.le_refl _) (by first | decide | omega) ?_
        exact ⟨fx_r (by split <;> omega), rfl, rfl⟩
      · refine A_iconst hC d_G_isTokenInRange_59 (by decide) ?_
        refine A_goto (tgt := 64) hC d_G_isTokenInRange_60 (by decide) ?_
        refine A_zret hC d_G_isTokenInRange_64 rfl (Nat.le_refl _) (Nat.le_refl _) (by first | decide | omega) ?_
        exact ⟨fx_r (by split <;> omega), rfl, rfl⟩
  · refine A_ild1 hC d_G_isTokenInRange_40 ?_
    refine A_iconst hC d_G_isTokenInRange_41 (by decide) ?_
    refine A_bipush hC d_G_isTokenInRange_42 (by decide) (by decide) ?_
    refine A_SF1 (as := [.inl a, .inl 0, .inl 9]) hC d_G_isTokenInRange_44 mv_G_isWithin lk_G_72 (by decide) (k_G_isWithin l n M hn a 0 9) rfl rfl (Nat.le_of_ble_eq_true rfl) ⟨Nat.zero_le _, Nat.zero_le _⟩ rfl ?_
    refine A_ifeq (tgt := 63) hC d_G_isTokenInRange_47 (by decide) (fun h47 => ?_) (fun h47 => ?_)
    · refine A_iconst hC d_G_isTokenInRange_63 (by decide) ?_
      refine A_zret hC d_G_isTokenInRange_64 rfl (Nat.le_refl _) (Nat.le_refl _) (by first | decide | omega) ?_
      exact ⟨fx_r (by split <;> omega), rfl, rfl⟩
    · refine A_ild2 hC d_G_isTokenInRange_50 ?_
      refine A_iconst hC d_G_isTokenInRange_51 (by decide) ?_
      refine A_iconst hC d_G_isTokenInRange_52 (by decide) ?_
      refine A_SF1 (as := [.inl b, .inl 0, .inl 3]) hC d_G_isTokenInRange_53 mv_G_isWithin lk_G_72 (by decide) (k_G_isWithin l n M hn b 0 3) rfl rfl (Nat.le_of_ble_eq_true rfl) ⟨Nat.zero_le _, Nat.zero_le _⟩ rfl ?_
      refine A_ifeq (tgt := 63) hC d_G_isTokenInRange_56 (by decide) (fun h56 => ?_) (fun h56 => ?_)
      · refine A_iconst hC d_G_isTokenInRange_63 (by decide) ?_
        refine A_zret hC d_G_isTokenInRange_64 rfl (Nat.le_refl _) (Nat.le_refl _) (by first | decide | omega) ?_
        exact ⟨fx_r (by split <;> omega), rfl, rfl⟩
      · refine A_iconst hC d_G_isTokenInRange_59 (by decide) ?_
        refine A_goto (tgt := 64) hC d_G_isTokenInRange_60 (by decide) ?_
        refine A_zret hC d_G_isTokenInRange_64 rfl (Nat.le_refl _) (Nat.le_refl _) (by first | decide | omega) ?_
        exact ⟨fx_r (by split <;> omega), rfl, rfl⟩
  · refine A_ild1 hC d_G_isTokenInRange_65 ?_
    refine A_iconst hC d_G_isTokenInRange_66 (by decide) ?_
    refine A_bipush hC d_G_isTokenInRange_67 (by decide) (by decide) ?_
    refine A_SF1 (as := [.inl a, .inl 0, .inl 9]) hC d_G_isTokenInRange_69 mv_G_isWithin lk_G_72 (by decide) (k_G_isWithin l n M hn a 0 9) rfl rfl (Nat.le_of_ble_eq_true rfl) ⟨Nat.zero_le _, Nat.zero_le _⟩ rfl ?_
    refine A_zret hC d_G_isTokenInRange_72 rfl (Nat.le_refl _) (Nat.le_refl _) (by first | decide | omega) ?_
    exact ⟨fx_r (by split <;> omega), rfl, rfl⟩
  · refine A_ild1 hC d_G_isTokenInRange_73 ?_
    refine A_iconst hC d_G_isTokenInRange_74 (by decide) ?_
    refine A_iconst hC d_G_isTokenInRange_75 (by decide) ?_
    refine A_SF1 (as := [.inl a, .inl 0, .inl 4]) hC d_G_isTokenInRange_76 mv_G_isWithin lk_G_72 (by decide) (k_G_isWithin l n M hn a 0 4) rfl rfl (Nat.le_of_ble_eq_true rfl) ⟨Nat.zero_le _, Nat.zero_le _⟩ rfl ?_
    refine A_zret hC d_G_isTokenInRange_79 rfl (Nat.le_refl _) (Nat.le_refl _) (by first | decide | omega) ?_
    exact ⟨fx_r (by split <;> omega), rfl, rfl⟩
  · refine A_ild1 hC d_G_isTokenInRange_80 ?_
    refine A_iconst hC d_G_isTokenInRange_81 (by decide) ?_
    refine A_iconst hC d_G_isTokenInRange_82 (by decide) ?_
    refine A_SF1 (as := [.inl a, .inl 0, .inl 3]) hC d_G_isTokenInRange_83 mv_G_isWithin lk_G_72 (by decide) (k_G_isWithin l n M hn a 0 3) rfl rfl (Nat.le_of_ble_eq_true rfl) ⟨Nat.zero_le _, Nat.zero_le _⟩ rfl ?_
    refine A_ifeq (tgt := 102) hC d_G_isTokenInRange_86 (by decide) (fun h86 => ?_) (fun h86 => ?_)
    · refine A_iconst hC d_G_isTokenInRange_102 (by decide) ?_
      refine A_zret hC d_G_isTokenInRange_103 rfl (Nat.le_refl _) (Nat.le_refl _) (by first | decide | omega) ?_
      exact ⟨fx_r (by split <;> omega), rfl, rfl⟩
    · refine A_ild2 hC d_G_isTokenInRange_89 ?_
      refine A_iconst hC d_G_isTokenInRange_90 (by decide) ?_
      refine A_iconst hC d_G_isTokenInRange_91 (by decide) ?_
      refine A_SF1 (as := [.inl b, .inl 0, .inl 1]) hC d_G_isTokenInRange_92 mv_G_isWithin lk_G_72 (by decide) (k_G_isWithin l n M hn b 0 1) rfl rfl (Nat.le_of_ble_eq_true rfl) ⟨Nat.zero_le _, Nat.zero_le _⟩ rfl ?_
      refine A_ifeq (tgt := 102) hC d_G_isTokenInRange_95 (by decide) (fun h95 => ?_) (fun h95 => ?_)
      · refine A_iconst hC d_G_isTokenInRange_102 (by decide) ?_
        refine A_zret hC d_G_isTokenInRange_103 rfl (Nat.le_refl _) (Nat.le_refl _) (by first | decide | omega) ?_
        exact ⟨fx_r (by split <;> omega), rfl, rfl⟩
      · refine A_iconst hC d_G_isTokenInRange_98 (by decide) ?_
        refine A_goto (tgt := 103) hC d_G_isTokenInRange_99 (by decide) ?_
        refine A_zret hC d_G_isTokenInRange_103 rfl (Nat.le_refl _) (Nat.le_refl _) (by first | decide | omega) ?_
        exact ⟨fx_r (by split <;> omega), rfl, rfl⟩
  · refine A_ild1 hC d_G_isTokenInRange_104 ?_
    refine A_iconst hC d_G_isTokenInRange_105 (by decide) ?_
    refine A_iconst hC d_G_isTokenInRange_106 (by decide) ?_
    refine A_SF1 (as := [.inl a, .inl 1, .inl 3]) hC d_G_isTokenInRange_107 mv_G_isWithin lk_G_72 (by decide) (k_G_isWithin l n M hn a 1 3) rfl rfl (Nat.le_of_ble_eq_true rfl) ⟨Nat.zero_le _, Nat.zero_le _⟩ rfl ?_
    refine A_zret hC d_G_isTokenInRange_110 rfl (Nat.le_refl _) (Nat.le_refl _) (by first | decide | omega) ?_
    exact ⟨fx_r (by split <;> omega), rfl, rfl⟩
  · refine A_ild0 hC d_G_isTokenInRange_111 ?_
    refine A_bipush hC d_G_isTokenInRange_112 (by decide) (by decide) ?_
    refine A_icmpne (tgt := 121) hC d_G_isTokenInRange_114 (by decide) (fun h114 => ?_) (fun h114 => ?_)
    · refine A_iconst hC d_G_isTokenInRange_121 (by decide) ?_
      refine A_zret hC d_G_isTokenInRange_122 rfl (Nat.le_refl _) (Nat.le_refl _) (by first | decide | omega) ?_
      exact ⟨fx_r (by split <;> omega), rfl, rfl⟩
    · refine A_iconst hC d_G_isTokenInRange_117 (by decide) ?_
      refine A_goto (tgt := 122) hC d_G_isTokenInRange_118 (by decide) ?_
      refine A_zret hC d_G_isTokenInRange_122 rfl (Nat.le_refl _) (Nat.le_refl _) (by first | decide | omega) ?_
      exact ⟨fx_r (by split <;> omega), rfl, rfl⟩
set_option maxHeartbeats 4000000 in
theorem k_G_hasSetBehind (l : Launch) (n : Nat) (M : Mem) (hn : 117 ≤ n) (op : Int) : AF l m_G_hasSetBehind 1 [.inl op] n M (some (.inl (if opnP op then 1 else 0))) M := by
  refine AM_intro (by decide) (Nat.le_of_ble_eq_true rfl) (fun X b0 D hC _ => ?_)
  show AW X b0 D true 0 0 _ n M 0 [some (.inl op)] []
  refine A_ild0 hC d_G_hasSetBehind_0 ?_
  refine A_iconst hC d_G_hasSetBehind_1 (by decide) ?_
  refine A_icmpeq (tgt := 15) hC d_G_hasSetBehind_2 (by decide) (fun h2 => ?_) (fun h2 => ?_)
  · refine A_iconst hC d_G_hasSetBehind_15 (by decide) ?_
    refine A_goto (tgt := 20) hC d_G_hasSetBehind_16 (by decide) ?_
    refine A_zret hC d_G_hasSetBehind_20 rfl (Nat.le_refl _) (Nat.le_refl _) (by first | decide | omega) ?_
    exact ⟨fx_r (by split <;> omega), rfl, rfl⟩
  · refine A_ild0 hC d_G_hasSetBehind_5 ?_
    refine A_iconst hC d_G_hasSetBehind_6 (by decide) ?_
    refine A_icmpeq (tgt := 15) hC d_G_hasSetBehind_7 (by decide) (fun h7 => ?_) (fun h7 => ?_)
    · refine A_iconst hC d_G_hasSetBehind_15 (by decide) ?_
      refine A_goto (tgt := 20) hC d_G_hasSetBehind_16 (by decide) ?_
      refine A_zret hC d_G_hasSetBehind_20 rfl (Nat.le_refl _) (Nat.le_refl _) (by first | decide | omega) ?_
      exact ⟨fx_r (by split <;> omega), rfl, rfl⟩
    · refine A_ild0 hC d_G_hasSetBehind_10 ?_
      refine A_iconst hC d_G_hasSetBehind_11 (by decide) ?_
      refine A_icmpne (tgt := 19) hC d_G_hasSetBehind_12 (by decide) (fun h12 => ?_) (fun h12 => ?_)
      · refine A_iconst hC d_G_hasSetBehind_19 (by decide) ?_
        refine A_zret hC d_G_hasSetBehind_20 rfl (Nat.le_refl _) (Nat.le_refl _) (by first | decide | omega) ?_
        exact ⟨fx_r (by split <;> omega), rfl, rfl⟩
      · refine A_iconst hC d_G_hasSetBehind_15 (by decide) ?_
        refine A_goto (tgt := 20) hC d_G_hasSetBehind_16 (by decide) ?_
        refine A_zret hC d_G_hasSetBehind_20 rfl (Nat.le_refl _) (Nat.le_refl _) (by first | decide | omega) ?_
        exact ⟨fx_r (by split <;> omega), rfl, rfl⟩
/-- the types are at most five, their fields at most four -/
def SC (M : Mem) : Prop := 0 ≤ M 1 4 ∧ M 1 4 ≤ 5 ∧ ∀ t : Int, 0 ≤ M 2 t ∧ M 2 t ≤ 4
abbrev hasF (M : Mem) (t f : Int) : Prop := (0 ≤ t ∧ t < M 1 4) ∧ 0 ≤ f ∧ f < M 2 t
set_option maxHeartbeats 4000000 in
theorem k_Sc_hasType (l : Launch) (n : Nat) (M : Mem) (hn : 117 ≤ n) (t : Int) : AF l m_Sc_hasType 1 [.inr 1, .inl t] n M (some (.inl (if 0 ≤ t ∧ t < M 1 4 then 1 else 0))) M := by
  refine AM_intro (by decide) (Nat.le_of_ble_eq_true rfl) (fun X b0 D hC _ => ?_)
  show AW X b0 D true 0 0 _ n M 0 [some (.inr 1), some (.inl t)] []
  refine A_ild1 hC d_Sc_hasType_0 ?_
  refine A_iflt (tgt := 16) hC d_Sc_hasType_1 (by decide) (fun h1 => ?_) (fun h1 => ?_)
  · refine A_iconst hC d_Sc_hasType_16 (by decide) ?_
    refine A_zret hC d_Sc_hasType_17 rfl (Nat.le_refl _) (Nat.le_refl _) (by first | decide | omega) ?_
    exact ⟨fx_r (by split <;> omega), rfl, rfl⟩
  · refine A_ild1 hC d_Sc_hasType_4 ?_
    refine A_ald0 hC d_Sc_hasType_5 ?_
    refine A_getI (kI := 4) hC d_Sc_hasType_6 fF_Sc_25 ⟨by decide, rfl⟩ rfl ly_1 (by omega) ?_
    refine A_icmpge (tgt := 16) hC d_Sc_hasType_9 (by decide) (fun h9 => ?_) (fun h9 => ?_)
    · refine A_iconst hC d_Sc_hasType_16 (by decide) ?_
      refine A_zret hC d_Sc_hasType_17 rfl (Nat.le_refl _) (Nat.le_refl _) (by first | decide | omega) ?_
      exact ⟨fx_r (by split <;> omega), rfl, rfl⟩
    · refine A_iconst hC d_Sc_hasType_12 (by decide) ?_
      refine A_goto (tgt := 17) hC d_Sc_hasType_13 (by decide) ?_
      refine A_zret hC d_Sc_hasType_17 rfl (Nat.le_refl _) (Nat.le_refl _) (by first | decide | omega) ?_
      exact ⟨fx_r (by split <;> omega), rfl, rfl⟩
set_option maxHeartbeats 4000000 in
theorem k_Sc_hasField (l : Launch) (n : Nat) (M : Mem) (hn : 117 ≤ n) (hS : SC M) (t f : Int) : AF l m_Sc_hasField 2 [.inr 1, .inl t, .inl f] n M (some (.inl (if hasF M t f then 1 else 0))) M := by
  refine AM_intro (by decide) (Nat.le_of_ble_eq_true rfl) (fun X b0 D hC _ => ?_)
  show AW X b0 D true 0 0 _ n M 0 [some (.inr 1), some (.inl t), some (.inl f)] []
  have hS1 := hS.1
  have hS2 := hS.2.1
  have hS3 := hS.2.2 t
  refine A_ald0 hC d_Sc_hasField_0 ?_
  refine A_ild1 hC d_Sc_hasField_1 ?_
  refine A_VF1 (as := [.inl t]) hC d_Sc_hasField_2 mv_Sc_hasType lk_Sc_29 (by decide) sel_Sc_hasType hq_Sc ly_1 (by omega) (k_Sc_hasType l n M hn t) rfl rfl (Nat.le_of_ble_eq_true rfl) ⟨Nat.zero_le _, Nat.zero_le _⟩ rfl ?_
  refine A_ifeq (tgt := 26) hC d_Sc_hasField_5 (by decide) (fun h5 => ?_) (fun h5 => ?_)
  · refine A_iconst hC d_Sc_hasField_26 (by decide) ?_
    refine A_zret hC d_Sc_hasField_27 rfl (Nat.le_refl _) (Nat.le_refl _) (by first | decide | omega) ?_
    exact ⟨fx_r (by split <;> omega), rfl, rfl⟩
  · refine A_ild2 hC d_Sc_hasField_8 ?_
    refine A_iflt (tgt := 26) hC d_Sc_hasField_9 (by decide) (fun h9 => ?_) (fun h9 => ?_)
    · refine A_iconst hC d_Sc_hasField_26 (by decide) ?_
      refine A_zret hC d_Sc_hasField_27 rfl (Nat.le_refl _) (Nat.le_refl _) (by first | decide | omega) ?_
      exact ⟨fx_r (by split <;> omega), rfl, rfl⟩
    · refine A_ild2 hC d_Sc_hasField_12 ?_
      refine A_ald0 hC d_Sc_hasField_13 ?_
      refine A_getCR (v := 2) hC d_Sc_hasField_14 fF_Sc_9 ⟨by decide, rfl⟩ ly_1 (by omega) ⟨rfl, by decide⟩ cv_1_0 ?_
      refine A_ild1 hC d_Sc_hasField_17 ?_
      refine A_iald hC d_Sc_hasField_18 ly_2 (by omega) (by omega) ?_
      refine A_icmpge (tgt := 26) hC d_Sc_hasField_19 (by decide) (fun h19 => ?_) (fun h19 => ?_)
      · refine A_iconst hC d_Sc_hasField_26 (by decide) ?_
        refine A_zret hC d_Sc_hasField_27 rfl (Nat.le_refl _) (Nat.le_refl _) (by first | decide | omega) ?_
        exact ⟨fx_r (by split <;> omega), rfl, rfl⟩
      · refine A_iconst hC d_Sc_hasField_22 (by decide) ?_
        refine A_goto (tgt := 27) hC d_Sc_hasField_23 (by decide) ?_
        refine A_zret hC d_Sc_hasField_27 rfl (Nat.le_refl _) (Nat.le_refl _) (by first | decide | omega) ?_
        exact ⟨fx_r (by split <;> omega), rfl, rfl⟩
set_option maxHeartbeats 4000000 in
theorem k_Sc_kindOf (l : Launch) (n : Nat) (M : Mem) (hn : 117 ≤ n) (hS : SC M) (t f : Int) : AF l m_Sc_kindOf 3 [.inr 1, .inl t, .inl f] n M (some (.inl (if hasF M t f then M 3 (t * 4 + f) else -1))) M := by
  refine AM_intro (by decide) (Nat.le_of_ble_eq_true rfl) (fun X b0 D hC _ => ?_)
  show AW X b0 D true 0 0 _ n M 0 [some (.inr 1), some (.inl t), some (.inl f)] []
  have hS1 := hS.1
  have hS2 := hS.2.1
  have hS3 := hS.2.2 t
  refine A_ald0 hC d_Sc_kindOf_0 ?_
  refine A_ild1 hC d_Sc_kindOf_1 ?_
  refine A_ild2 hC d_Sc_kindOf_2 ?_
  refine A_VF1 (as := [.inl t, .inl f]) hC d_Sc_kindOf_3 mv_Sc_hasField lk_Sc_33 (by decide) sel_Sc_hasField hq_Sc ly_1 (by omega) (k_Sc_hasField l n M hn hS t f) rfl rfl (Nat.le_of_ble_eq_true rfl) ⟨Nat.zero_le _, Nat.zero_le _⟩ rfl ?_
  refine A_ifeq (tgt := 22) hC d_Sc_kindOf_6 (by decide) (fun h6 => ?_) (fun h6 => ?_)
  · refine A_iconst hC d_Sc_kindOf_22 (by decide) ?_
    refine A_iret hC d_Sc_kindOf_23 rfl (Nat.le_refl _) (Nat.le_refl _) ?_
    exact ⟨fx_r (by split <;> omega), rfl, rfl⟩
  · refine A_ald0 hC d_Sc_kindOf_9 ?_
    refine A_getCR (v := 3) hC d_Sc_kindOf_10 fF_Sc_15 ⟨by decide, rfl⟩ ly_1 (by omega) ⟨rfl, by decide⟩ cv_1_1 ?_
    refine A_ild1 hC d_Sc_kindOf_13 ?_
    refine A_iconst hC d_Sc_kindOf_14 (by decide) ?_
    refine A_imul hC d_Sc_kindOf_15 (by omega) ?_
    refine A_ild2 hC d_Sc_kindOf_16 ?_
    refine A_iadd hC d_Sc_kindOf_17 (by omega) ?_
    refine A_iald hC d_Sc_kindOf_18 ly_3 (by omega) (by omega) ?_
    refine A_goto (tgt := 23) hC d_Sc_kindOf_19 (by decide) ?_
    refine A_iret hC d_Sc_kindOf_23 rfl (Nat.le_refl _) (Nat.le_refl _) ?_
    exact ⟨fx_r (by split <;> omega), rfl, rfl⟩
set_option maxHeartbeats 4000000 in
theorem k_Sc_targetOf (l : Launch) (n : Nat) (M : Mem) (hn : 117 ≤ n) (hS : SC M) (t f : Int) : AF l m_Sc_targetOf 3 [.inr 1, .inl t, .inl f] n M (some (.inl (if hasF M t f then M 4 (t * 4 + f) else 5))) M := by
  refine AM_intro (by decide) (Nat.le_of_ble_eq_true rfl) (fun X b0 D hC _ => ?_)
  show AW X b0 D true 0 0 _ n M 0 [some (.inr 1), some (.inl t), some (.inl f)] []
  have hS1 := hS.1
  have hS2 := hS.2.1
  have hS3 := hS.2.2 t
  refine A_ald0 hC d_Sc_targetOf_0 ?_
  refine A_ild1 hC d_Sc_targetOf_1 ?_
  refine A_ild2 hC d_Sc_targetOf_2 ?_
  refine A_VF1 (as := [.inl t, .inl f]) hC d_Sc_targetOf_3 mv_Sc_hasField lk_Sc_33 (by decide) sel_Sc_hasField hq_Sc ly_1 (by omega) (k_Sc_hasField l n M hn hS t f) rfl rfl (Nat.le_of_ble_eq_true rfl) ⟨Nat.zero_le _, Nat.zero_le _⟩ rfl ?_
  refine A_ifeq (tgt := 22) hC d_Sc_targetOf_6 (by decide) (fun h6 => ?_) (fun h6 => ?_)
  · refine A_iconst hC d_Sc_targetOf_22 (by decide) ?_
    refine A_iret hC d_Sc_targetOf_23 rfl (Nat.le_refl _) (Nat.le_refl _) ?_
    exact ⟨fx_r (by split <;> omega), rfl, rfl⟩
  · refine A_ald0 hC d_Sc_targetOf_9 ?_
    refine A_getCR (v := 4) hC d_Sc_targetOf_10 fF_Sc_18 ⟨by decide, rfl⟩ ly_1 (by omega) ⟨rfl, by decide⟩ cv_1_2 ?_
    refine A_ild1 hC d_Sc_targetOf_13 ?_
    refine A_iconst hC d_Sc_targetOf_14 (by decide) ?_
    refine A_imul hC d_Sc_targetOf_15 (by omega) ?_
    refine A_ild2 hC d_Sc_targetOf_16 ?_
    refine A_iadd hC d_Sc_targetOf_17 (by omega) ?_
    refine A_iald hC d_Sc_targetOf_18 ly_4 (by omega) (by omega) ?_
    refine A_goto (tgt := 23) hC d_Sc_targetOf_19 (by decide) ?_
    refine A_iret hC d_Sc_targetOf_23 rfl (Nat.le_refl _) (Nat.le_refl _) ?_
    exact ⟨fx_r (by split <;> omega), rfl, rfl⟩
set_option maxHeartbeats 4000000 in
theorem k_Sc_isRequired (l : Launch) (n : Nat) (M : Mem) (hn : 117 ≤ n) (hS : SC M) (t f : Int) : AF l m_Sc_isRequired 3 [.inr 1, .inl t, .inl f] n M (some (.inl (if hasF M t f ∧ ¬ M 5 (t * 4 + f) = 0 then 1 else 0))) M := by
  refine AM_intro (by decide) (Nat.le_of_ble_eq_true rfl) (fun X b0 D hC _ => ?_)
  show AW X b0 D true 0 0 _ n M 0 [some (.inr 1), some (.inl t), some (.inl f)] []
  have hS1 := hS.1
  have hS2 := hS.2.1
  have hS3 := hS.2.2 t
  refine A_ald0 hC d_Sc_isRequired_0 ?_
  refine A_ild1 hC d_Sc_isRequired_1 ?_
  refine A_ild2 hC d_Sc_isRequired_2 ?_
  refine A_VF1 (as := [.inl t, .inl f]) hC d_Sc_isRequired_3 mv_Sc_hasField lk_Sc_33 (by decide) sel_Sc_hasField hq_Sc ly_1 (by omega) (k_Sc_hasField l n M hn hS t f) rfl rfl (Nat.le_of_ble_eq_true rfl) ⟨Nat.zero_le _, Nat.zero_le _⟩ rfl ?_
  refine A_ifeq (tgt := 26) hC d_Sc_isRequired_6 (by decide) (fun h6 => ?_) (fun h6 => ?_)
  · refine A_iconst hC d_Sc_isRequired_26 (by decide) ?_
    refine A_zret hC d_Sc_isRequired_27 rfl (Nat.le_refl _) (Nat.le_refl _) (by first | decide | omega) ?_
    exact ⟨fx_r (by split <;> omega), rfl, rfl⟩
  · refine A_ald0 hC d_Sc_isRequired_9 ?_
    refine A_getCR (v := 5) hC d_Sc_isRequired_10 fF_Sc_21 ⟨by decide, rfl⟩ ly_1 (by omega) ⟨rfl, by decide⟩ cv_1_3 ?_
    refine A_ild1 hC d_Sc_isRequired_13 ?_
    refine A_iconst hC d_Sc_isRequired_14 (by decide) ?_
    refine A_imul hC d_Sc_isRequired_15 (by omega) ?_
    refine A_ild2 hC d_Sc_isRequired_16 ?_
    refine A_iadd hC d_Sc_isRequired_17 (by omega) ?_
    refine A_zald hC d_Sc_isRequired_18 ly_5 (by omega) (by omega) ?_
    refine A_ifeq (tgt := 26) hC d_Sc_isRequired_19 (by decide) (fun h19 => ?_) (fun h19 => ?_)
    · refine A_iconst hC d_Sc_isRequired_26 (by decide) ?_
      refine A_zret hC d_Sc_isRequired_27 rfl (Nat.le_refl _) (Nat.le_refl _) (by first | decide | omega) ?_
      exact ⟨fx_r (by split <;> omega), rfl, rfl⟩
    · refine A_iconst hC d_Sc_isRequired_22 (by decide) ?_
      refine A_goto (tgt := 27) hC d_Sc_isRequired_23 (by decide) ?_
      refine A_zret hC d_Sc_isRequired_27 rfl (Nat.le_refl _) (Nat.le_refl _) (by first | decide | omega) ?_
      exact ⟨fx_r (by split <;> omega), rfl, rfl⟩
set_option maxHeartbeats 4000000 in
theorem k_Sc_addType (l : Launch) (n : Nat) (M : Mem) (hn : 117 ≤ n) (hS : SC M) : AF l m_Sc_addType 1 [.inr 1] n M (some (.inl (M 1 4))) (up M 1 4 (M 1 4 + 1)) := by
  refine AM_intro (by decide) (Nat.le_of_ble_eq_true rfl) (fun X b0 D hC _ => ?_)
  show AW X b0 D true 0 0 _ n M 0 [some (.inr 1), none] []
  have hS1 := hS.1
  have hS2 := hS.2.1
  refine A_ald0 hC d_Sc_addType_0 ?_
  refine A_getI (kI := 4) hC d_Sc_addType_1 fF_Sc_25 ⟨by decide, rfl⟩ rfl ly_1 (by omega) ?_
  refine A_ist1 hC d_Sc_addType_4 ?_
  refine A_ald0 hC d_Sc_addType_5 ?_
  refine A_dup hC d_Sc_addType_6 ?_
  refine A_getI (kI := 4) hC d_Sc_addType_7 fF_Sc_25 ⟨by decide, rfl⟩ rfl ly_1 (by omega) ?_
  refine A_iconst hC d_Sc_addType_10 (by decide) ?_
  refine A_iadd hC d_Sc_addType_11 (by omega) ?_
  refine A_putI (kI := 4) hC d_Sc_addType_12 fP_Sc_25 ⟨by decide, rfl⟩ rfl ly_1 (by omega) (fun _ => by decide) ?_
  refine A_ild1 hC d_Sc_addType_15 ?_
  refine A_iret hC d_Sc_addType_16 rfl (Nat.le_refl _) (Nat.le_refl _) ?_
  exact ⟨rfl, rfl, rfl⟩
end
section
set_option maxHeartbeats 4000000 in
theorem k_Sc_addField (l : Launch) (n : Nat) (M : Mem) (hn : 117 ≤ n) (t k g r : Int) (ht : 0 ≤ t ∧ t ≤ 4) (hf : 0 ≤ M 2 t ∧ M 2 t ≤ 3) (hr : r = 0 ∨ r = 1) : AF l m_Sc_addField 1 [.inr 1, .inl t, .inl k, .inl g, .inl r] n M (some (.inl (M 2 t))) (up (up (up (up M 3 (t * 4 + M 2 t) k) 4 (t * 4 + M 2 t) g) 5 (t * 4 + M 2 t) r) 2 t (M 2 t + 1)) := by
  refine AM_intro (by decide) (Nat.le_of_ble_eq_true rfl) (fun X b0 D hC _ => ?_)
  show AW X b0 D true 0 0 _ n M 0 [some (.inr 1), some (.inl t), some (.inl k), some (.inl g), some (.inl r), none, none] []
  refine A_ald0 hC d_Sc_addField_0 ?_
  refine A_getCR (v := 2) hC d_Sc_addField_1 fF_Sc_9 ⟨by decide, rfl⟩ ly_1 (by omega) ⟨rfl, by decide⟩ cv_1_0 ?_
  refine A_ild1 hC d_Sc_addField_4 ?_
  refine A_iald hC d_Sc_addField_5 ly_2 (by omega) (by omega) ?_
  refine A_ist5 hC d_Sc_addField_6 ?_
  refine A_ild1 hC d_Sc_addField_8 ?_
  refine A_iconst hC d_Sc_addField_9 (by decide) ?_
  refine A_imul hC d_Sc_addField_10 (by omega) ?_
  refine A_ild5 hC d_Sc_addField_11 ?_
  refine A_iadd hC d_Sc_addField_13 (by omega) ?_
  refine A_ist6 hC d_Sc_addField_14 ?_
  refine A_ald0 hC d_Sc_addField_16 ?_
  refine A_getCR (v := 3) hC d_Sc_addField_17 fF_Sc_15 ⟨by decide, rfl⟩ ly_1 (by omega) ⟨rfl, by decide⟩ cv_1_1 ?_
  refine A_ild6 hC d_Sc_addField_20 ?_
  refine A_ild2 hC d_Sc_addField_22 ?_
  refine A_iast hC d_Sc_addField_23 ly_3 (by omega) (by omega) (fun _ => kk_i _) ?_
  refine A_ald0 hC d_Sc_addField_24 ?_
  refine A_getCR (v := 4) hC d_Sc_addField_25 fF_Sc_18 ⟨by decide, rfl⟩ ly_1 (by omega) ⟨rfl, by decide⟩ cv_1_2 ?_
  refine A_ild6 hC d_Sc_addField_28 ?_
  refine A_ild3 hC d_Sc_addField_30 ?_
  refine A_iast hC d_Sc_addField_31 ly_4 (by omega) (by omega) (fun _ => kk_i _) ?_
  refine A_ald0 hC d_Sc_addField_32 ?_
  refine A_getCR (v := 5) hC d_Sc_addField_33 fF_Sc_21 ⟨by decide, rfl⟩ ly_1 (by omega) ⟨rfl, by decide⟩ cv_1_3 ?_
  refine A_ild6 hC d_Sc_addField_36 ?_
  refine A_ild4 hC d_Sc_addField_38 ?_
  refine A_zast hC d_Sc_addField_40 ly_5 (by omega) (by omega) (fun _ => kk_z _) (by first | decide | omega) ?_
  refine A_ald0 hC d_Sc_addField_41 ?_
  refine A_getCR (v := 2) hC d_Sc_addField_42 fF_Sc_9 ⟨by decide, rfl⟩ ly_1 (by omega) ⟨rfl, by decide⟩ cv_1_0 ?_
  refine A_ild1 hC d_Sc_addField_45 ?_
  refine A_dup2 hC d_Sc_addField_46 ?_
  refine A_ialdE (x := M 2 t) hC d_Sc_addField_47 ly_2 (by omega) (by omega) (by rw [up_nc (c := 5) (c' := 2) (by decide), up_nc (c := 4) (c' := 2) (by decide), up_nc (c := 3) (c' := 2) (by decide)]) ?_
  refine A_iconst hC d_Sc_addField_48 (by decide) ?_
  refine A_iadd hC d_Sc_addField_49 (by omega) ?_
  refine A_iast hC d_Sc_addField_50 ly_2 (by omega) (by omega) (fun _ => kk_i _) ?_
  refine A_ild5 hC d_Sc_addField_51 ?_
  refine A_iret hC d_Sc_addField_53 rfl (Nat.le_refl _) (Nat.le_refl _) ?_
  exact ⟨rfl, rfl, rfl⟩
set_option maxHeartbeats 4000000 in
theorem k_Ro_hasRow (l : Launch) (n : Nat) (M : Mem) (hn : 117 ≤ n) (r : Int) : AF l m_Ro_hasRow 2 [.inr 6, .inl r] n M (some (.inl (if 1 ≤ r ∧ r ≤ M 6 4 then 1 else 0))) M := by
  refine AM_intro (by decide) (Nat.le_of_ble_eq_true rfl) (fun X b0 D hC _ => ?_)
  show AW X b0 D true 0 0 _ n M 0 [some (.inr 6), some (.inl r)] []
  refine A_ild1 hC d_Ro_hasRow_0 ?_
  refine A_iconst hC d_Ro_hasRow_1 (by decide) ?_
  refine A_ald0 hC d_Ro_hasRow_2 ?_
  refine A_getI (kI := 4) hC d_Ro_hasRow_3 fF_Ro_24 ⟨by decide, rfl⟩ rfl ly_6 (by omega) ?_
  refine A_SNF1 (as := [.inl r, .inl 1, .inl (M 6 4)]) hC d_Ro_hasRow_6 mv_G_isWithin lk_Ro_28 (by decide) (k_G_isWithin l n M hn r 1 (M 6 4)) rfl rfl (Nat.le_of_ble_eq_true rfl) ⟨Nat.zero_le _, Nat.zero_le _⟩ rfl ?_
  refine A_zret hC d_Ro_hasRow_9 rfl (Nat.le_refl _) (Nat.le_refl _) (by first | decide | omega) ?_
  exact ⟨rfl, rfl, rfl⟩
set_option maxHeartbeats 4000000 in
theorem k_Ro_typeOf (l : Launch) (n : Nat) (M : Mem) (hn : 117 ≤ n) (r : Int) (hr : 1 ≤ r ∧ r ≤ 12) : AF l m_Ro_typeOf 1 [.inr 6, .inl r] n M (some (.inl (M 7 (r - 1)))) M := by
  refine AM_intro (by decide) (Nat.le_of_ble_eq_true rfl) (fun X b0 D hC _ => ?_)
  show AW X b0 D true 0 0 _ n M 0 [some (.inr 6), some (.inl r)] []
  refine A_ald0 hC d_Ro_typeOf_0 ?_
  refine A_getCR (v := 7) hC d_Ro_typeOf_1 fF_Ro_9 ⟨by decide, rfl⟩ ly_6 (by omega) ⟨rfl, by decide⟩ cv_6_0 ?_
  refine A_ild1 hC d_Ro_typeOf_4 ?_
  refine A_iconst hC d_Ro_typeOf_5 (by decide) ?_
  refine A_isub hC d_Ro_typeOf_6 (by omega) ?_
  refine A_iald hC d_Ro_typeOf_7 ly_7 (by omega) (by omega) ?_
  refine A_iret hC d_Ro_typeOf_8 rfl (Nat.le_refl _) (Nat.le_refl _) ?_
  exact ⟨rfl, rfl, rfl⟩
set_option maxHeartbeats 4000000 in
theorem k_Ro_cellOf (l : Launch) (n : Nat) (M : Mem) (hn : 117 ≤ n) (r f : Int) (hr : 1 ≤ r ∧ r ≤ 12) (hf : 0 ≤ f ∧ f ≤ 3) : AF l m_Ro_cellOf 1 [.inl r, .inl f] n M (some (.inl ((r - 1) * 4 + f))) M := by
  refine AM_intro (by decide) (Nat.le_of_ble_eq_true rfl) (fun X b0 D hC _ => ?_)
  show AW X b0 D true 0 0 _ n M 0 [some (.inl r), some (.inl f)] []
  refine A_ild0 hC d_Ro_cellOf_0 ?_
  refine A_iconst hC d_Ro_cellOf_1 (by decide) ?_
  refine A_isub hC d_Ro_cellOf_2 (by omega) ?_
  refine A_iconst hC d_Ro_cellOf_3 (by decide) ?_
  refine A_imul hC d_Ro_cellOf_4 (by omega) ?_
  refine A_ild1 hC d_Ro_cellOf_5 ?_
  refine A_iadd hC d_Ro_cellOf_6 (by omega) ?_
  refine A_iret hC d_Ro_cellOf_7 rfl (Nat.le_refl _) (Nat.le_refl _) ?_
  exact ⟨rfl, rfl, rfl⟩
set_option maxHeartbeats 4000000 in
theorem k_Ro_emptyField (l : Launch) (n : Nat) (M : Mem) (hn : 117 ≤ n) (r f : Int) (hr : 1 ≤ r ∧ r ≤ 12) (hf : 0 ≤ f ∧ f ≤ 3) : AF l m_Ro_emptyField 2 [.inr 6, .inl r, .inl f] n M none (up (up M 8 ((r - 1) * 4 + f) (-1)) 9 ((r - 1) * 4 + f) 0) := by
  refine AM_intro (by decide) (Nat.le_of_ble_eq_true rfl) (fun X b0 D hC _ => ?_)
  show AW X b0 D true 0 0 _ n M 0 [some (.inr 6), some (.inl r), some (.inl f)] []
  refine A_ald0 hC d_Ro_emptyField_0 ?_
  refine A_getCR (v := 8) hC d_Ro_emptyField_1 fF_Ro_15 ⟨by decide, rfl⟩ ly_6 (by omega) ⟨rfl, by decide⟩ cv_6_1 ?_
  refine A_ild1 hC d_Ro_emptyField_4 ?_
  refine A_ild2 hC d_Ro_emptyField_5 ?_
  refine A_SF1 (as := [.inl r, .inl f]) hC d_Ro_emptyField_6 mv_Ro_cellOf lk_Ro_36 (by decide) (k_Ro_cellOf l n M hn r f (by omega) (by omega)) rfl rfl (Nat.le_of_ble_eq_true rfl) ⟨Nat.zero_le _, Nat.zero_le _⟩ rfl ?_
  refine A_iconst hC d_Ro_emptyField_9 (by decide) ?_
  refine A_iast hC d_Ro_emptyField_10 ly_8 (by omega) (by omega) (fun _ => kk_i _) ?_
  refine A_ald0 hC d_Ro_emptyField_11 ?_
  refine A_getCR (v := 9) hC d_Ro_emptyField_12 fF_Ro_18 ⟨by decide, rfl⟩ ly_6 (by omega) ⟨rfl, by decide⟩ cv_6_2 ?_
  refine A_ild1 hC d_Ro_emptyField_15 ?_
  refine A_ild2 hC d_Ro_emptyField_16 ?_
  refine A_SF1 (as := [.inl r, .inl f]) hC d_Ro_emptyField_17 mv_Ro_cellOf lk_Ro_36 (by decide) (k_Ro_cellOf l n (up M 8 ((r - 1) * 4 + f) (-1)) hn r f (by omega) (by omega)) rfl rfl (Nat.le_of_ble_eq_true rfl) ⟨Nat.zero_le _, Nat.zero_le _⟩ rfl ?_
  refine A_iconst hC d_Ro_emptyField_20 (by decide) ?_
  refine A_iast hC d_Ro_emptyField_21 ly_9 (by omega) (by omega) (fun _ => kk_i _) ?_
  refine A_vret hC d_Ro_emptyField_22 rfl (Nat.le_refl _) (Nat.le_refl _) ?_
  exact ⟨rfl, rfl, rfl⟩
set_option maxHeartbeats 4000000 in
theorem k_Ro_holdNumber (l : Launch) (n : Nat) (M : Mem) (hn : 117 ≤ n) (r f x : Int) (hr : 1 ≤ r ∧ r ≤ 12) (hf : 0 ≤ f ∧ f ≤ 3) : AF l m_Ro_holdNumber 2 [.inr 6, .inl r, .inl f, .inl x] n M none (up M 8 ((r - 1) * 4 + f) x) := by
  refine AM_intro (by decide) (Nat.le_of_ble_eq_true rfl) (fun X b0 D hC _ => ?_)
  show AW X b0 D true 0 0 _ n M 0 [some (.inr 6), some (.inl r), some (.inl f), some (.inl x)] []
  refine A_ald0 hC d_Ro_holdNumber_0 ?_
  refine A_getCR (v := 8) hC d_Ro_holdNumber_1 fF_Ro_15 ⟨by decide, rfl⟩ ly_6 (by omega) ⟨rfl, by decide⟩ cv_6_1 ?_
  refine A_ild1 hC d_Ro_holdNumber_4 ?_
  refine A_ild2 hC d_Ro_holdNumber_5 ?_
  refine A_SF1 (as := [.inl r, .inl f]) hC d_Ro_holdNumber_6 mv_Ro_cellOf lk_Ro_36 (by decide) (k_Ro_cellOf l n M hn r f (by omega) (by omega)) rfl rfl (Nat.le_of_ble_eq_true rfl) ⟨Nat.zero_le _, Nat.zero_le _⟩ rfl ?_
  refine A_ild3 hC d_Ro_holdNumber_9 ?_
  refine A_iast hC d_Ro_holdNumber_10 ly_8 (by omega) (by omega) (fun _ => kk_i _) ?_
  refine A_vret hC d_Ro_holdNumber_11 rfl (Nat.le_refl _) (Nat.le_refl _) ?_
  exact ⟨rfl, rfl, rfl⟩
set_option maxHeartbeats 4000000 in
theorem k_Ro_numberOf (l : Launch) (n : Nat) (M : Mem) (hn : 117 ≤ n) (r f : Int) (hr : 1 ≤ r ∧ r ≤ 12) (hf : 0 ≤ f ∧ f ≤ 3) : AF l m_Ro_numberOf 2 [.inr 6, .inl r, .inl f] n M (some (.inl (M 8 ((r - 1) * 4 + f)))) M := by
  refine AM_intro (by decide) (Nat.le_of_ble_eq_true rfl) (fun X b0 D hC _ => ?_)
  show AW X b0 D true 0 0 _ n M 0 [some (.inr 6), some (.inl r), some (.inl f)] []
  refine A_ald0 hC d_Ro_numberOf_0 ?_
  refine A_getCR (v := 8) hC d_Ro_numberOf_1 fF_Ro_15 ⟨by decide, rfl⟩ ly_6 (by omega) ⟨rfl, by decide⟩ cv_6_1 ?_
  refine A_ild1 hC d_Ro_numberOf_4 ?_
  refine A_ild2 hC d_Ro_numberOf_5 ?_
  refine A_SF1 (as := [.inl r, .inl f]) hC d_Ro_numberOf_6 mv_Ro_cellOf lk_Ro_36 (by decide) (k_Ro_cellOf l n M hn r f (by omega) (by omega)) rfl rfl (Nat.le_of_ble_eq_true rfl) ⟨Nat.zero_le _, Nat.zero_le _⟩ rfl ?_
  refine A_iald hC d_Ro_numberOf_9 ly_8 (by omega) (by omega) ?_
  refine A_iret hC d_Ro_numberOf_10 rfl (Nat.le_refl _) (Nat.le_refl _) ?_
  exact ⟨rfl, rfl, rfl⟩
set_option maxHeartbeats 4000000 in
theorem k_Ro_linkedCount (l : Launch) (n : Nat) (M : Mem) (hn : 117 ≤ n) (r f : Int) (hr : 1 ≤ r ∧ r ≤ 12) (hf : 0 ≤ f ∧ f ≤ 3) : AF l m_Ro_linkedCount 2 [.inr 6, .inl r, .inl f] n M (some (.inl (M 9 ((r - 1) * 4 + f)))) M := by
  refine AM_intro (by decide) (Nat.le_of_ble_eq_true rfl) (fun X b0 D hC _ => ?_)
  show AW X b0 D true 0 0 _ n M 0 [some (.inr 6), some (.inl r), some (.inl f)] []
  refine A_ald0 hC d_Ro_linkedCount_0 ?_
  refine A_getCR (v := 9) hC d_Ro_linkedCount_1 fF_Ro_18 ⟨by decide, rfl⟩ ly_6 (by omega) ⟨rfl, by decide⟩ cv_6_2 ?_
  refine A_ild1 hC d_Ro_linkedCount_4 ?_
  refine A_ild2 hC d_Ro_linkedCount_5 ?_
  refine A_SF1 (as := [.inl r, .inl f]) hC d_Ro_linkedCount_6 mv_Ro_cellOf lk_Ro_36 (by decide) (k_Ro_cellOf l n M hn r f (by omega) (by omega)) rfl rfl (Nat.le_of_ble_eq_true rfl) ⟨Nat.zero_le _, Nat.zero_le _⟩ rfl ?_
  refine A_iald hC d_Ro_linkedCount_9 ly_9 (by omega) (by omega) ?_
  refine A_iret hC d_Ro_linkedCount_10 rfl (Nat.le_refl _) (Nat.le_refl _) ?_
  exact ⟨rfl, rfl, rfl⟩
set_option maxHeartbeats 4000000 in
theorem k_Ro_linkedRow (l : Launch) (n : Nat) (M : Mem) (hn : 117 ≤ n) (r f j : Int) (hr : 1 ≤ r ∧ r ≤ 12) (hf : 0 ≤ f ∧ f ≤ 3) (hj : 0 ≤ j ∧ j ≤ 3) : AF l m_Ro_linkedRow 2 [.inr 6, .inl r, .inl f, .inl j] n M (some (.inl (M 10 (((r - 1) * 4 + f) * 4 + j)))) M := by
  refine AM_intro (by decide) (Nat.le_of_ble_eq_true rfl) (fun X b0 D hC _ => ?_)
  show AW X b0 D true 0 0 _ n M 0 [some (.inr 6), some (.inl r), some (.inl f), some (.inl j)] []
  refine A_ald0 hC d_Ro_linkedRow_0 ?_
  refine A_getCR (v := 10) hC d_Ro_linkedRow_1 fF_Ro_21 ⟨by decide, rfl⟩ ly_6 (by omega) ⟨rfl, by decide⟩ cv_6_3 ?_
  refine A_ild1 hC d_Ro_linkedRow_4 ?_
  refine A_ild2 hC d_Ro_linkedRow_5 ?_
  refine A_SF1 (as := [.inl r, .inl f]) hC d_Ro_linkedRow_6 mv_Ro_cellOf lk_Ro_36 (by decide) (k_Ro_cellOf l n M hn r f (by omega) (by omega)) rfl rfl (Nat.le_of_ble_eq_true rfl) ⟨Nat.zero_le _, Nat.zero_le _⟩ rfl ?_
  refine A_iconst hC d_Ro_linkedRow_9 (by decide) ?_
  refine A_imul hC d_Ro_linkedRow_10 (by omega) ?_
  refine A_ild3 hC d_Ro_linkedRow_11 ?_
  refine A_iadd hC d_Ro_linkedRow_12 (by omega) ?_
  refine A_iald hC d_Ro_linkedRow_13 ly_10 (by omega) (by omega) ?_
  refine A_iret hC d_Ro_linkedRow_14 rfl (Nat.le_refl _) (Nat.le_refl _) ?_
  exact ⟨rfl, rfl, rfl⟩
set_option maxHeartbeats 4000000 in
theorem k_Ro_addLinked (l : Launch) (n : Nat) (M : Mem) (hn : 117 ≤ n) (r f x : Int) (hr : 1 ≤ r ∧ r ≤ 12) (hf : 0 ≤ f ∧ f ≤ 3) (hj : 0 ≤ M 9 ((r - 1) * 4 + f) ∧ M 9 ((r - 1) * 4 + f) ≤ 3) : AF l m_Ro_addLinked 2 [.inr 6, .inl r, .inl f, .inl x] n M (some (.inl (M 9 ((r - 1) * 4 + f) + 1))) (up (up M 10 (((r - 1) * 4 + f) * 4 + M 9 ((r - 1) * 4 + f)) x) 9 ((r - 1) * 4 + f) (M 9 ((r - 1) * 4 + f) + 1)) := by
  refine AM_intro (by decide) (Nat.le_of_ble_eq_true rfl) (fun X b0 D hC _ => ?_)
  show AW X b0 D true 0 0 _ n M 0 [some (.inr 6), some (.inl r), some (.inl f), some (.inl x), none] []
  refine A_ild1 hC d_Ro_addLinked_0 ?_
  refine A_ild2 hC d_Ro_addLinked_1 ?_
  refine A_SF1 (as := [.inl r, .inl f]) hC d_Ro_addLinked_2 mv_Ro_cellOf lk_Ro_36 (by decide) (k_Ro_cellOf l n M hn r f (by omega) (by omega)) rfl rfl (Nat.le_of_ble_eq_true rfl) ⟨Nat.zero_le _, Nat.zero_le _⟩ rfl ?_
  refine A_ist4 hC d_Ro_addLinked_5 ?_
  refine A_ald0 hC d_Ro_addLinked_7 ?_
  refine A_getCR (v := 10) hC d_Ro_addLinked_8 fF_Ro_21 ⟨by decide, rfl⟩ ly_6 (by omega) ⟨rfl, by decide⟩ cv_6_3 ?_
  refine A_ild4 hC d_Ro_addLinked_11 ?_
  refine A_iconst hC d_Ro_addLinked_13 (by decide) ?_
  refine A_imul hC d_Ro_addLinked_14 (by omega) ?_
  refine A_ald0 hC d_Ro_addLinked_15 ?_
  refine A_getCR (v := 9) hC d_Ro_addLinked_16 fF_Ro_18 ⟨by decide, rfl⟩ ly_6 (by omega) ⟨rfl, by decide⟩ cv_6_2 ?_
  refine A_ild4 hC d_Ro_addLinked_19 ?_
  refine A_iald hC d_Ro_addLinked_21 ly_9 (by omega) (by omega) ?_
  refine A_iadd hC d_Ro_addLinked_22 (by omega) ?_
  refine A_ild3 hC d_Ro_addLinked_23 ?_
  refine A_iast hC d_Ro_addLinked_24 ly_10 (by omega) (by omega) (fun _ => kk_i _) ?_
  refine A_ald0 hC d_Ro_addLinked_25 ?_
  refine A_getCR (v := 9) hC d_Ro_addLinked_26 fF_Ro_18 ⟨by decide, rfl⟩ ly_6 (by omega) ⟨rfl, by decide⟩ cv_6_2 ?_
  refine A_ild4 hC d_Ro_addLinked_29 ?_
  refine A_dup2 hC d_Ro_addLinked_31 ?_
  refine A_ialdE (x := M 9 ((r - 1) * 4 + f)) hC d_Ro_addLinked_32 ly_9 (by omega) (by omega) (by rw [up_nc (c := 10) (c' := 9) (by decide)]) ?_
  refine A_iconst hC d_Ro_addLinked_33 (by decide) ?_
  refine A_iadd hC d_Ro_addLinked_34 (by omega) ?_
  refine A_iast hC d_Ro_addLinked_35 ly_9 (by omega) (by omega) (fun _ => kk_i _) ?_
  refine A_ald0 hC d_Ro_addLinked_36 ?_
  refine A_getCR (v := 9) hC d_Ro_addLinked_37 fF_Ro_18 ⟨by decide, rfl⟩ ly_6 (by omega) ⟨rfl, by decide⟩ cv_6_2 ?_
  refine A_ild4 hC d_Ro_addLinked_40 ?_
  refine A_ialdE (x := (M 9 ((r - 1) * 4 + f)) + 1) hC d_Ro_addLinked_42 ly_9 (by omega) (by omega) (by rw [up_eq]) ?_
  refine A_iret hC d_Ro_addLinked_43 rfl (Nat.le_refl _) (Nat.le_refl _) ?_
  exact ⟨rfl, rfl, rfl⟩
set_option maxHeartbeats 4000000 in
theorem k_Te_addToken (l : Launch) (n : Nat) (M : Mem) (hn : 117 ≤ n) (t o a b : Int) (ht : 0 ≤ t ∧ t ≤ 3) (hl : 0 ≤ M 12 t ∧ M 12 t ≤ 15) : AF l m_Te_addToken 1 [.inr 11, .inl t, .inl o, .inl a, .inl b] n M (some (.inl (M 12 t + 1))) (up (up (up (up M 13 (t * 16 + M 12 t) o) 14 (t * 16 + M 12 t) a) 15 (t * 16 + M 12 t) b) 12 t (M 12 t + 1)) := by
  refine AM_intro (by decide) (Nat.le_of_ble_eq_true rfl) (fun X b0 D hC _ => ?_)
  show AW X b0 D true 0 0 _ n M 0 [some (.inr 11), some (.inl t), some (.inl o), some (.inl a), some (.inl b), none] []
  refine A_ild1 hC d_Te_addToken_0 ?_
  refine A_bipush hC d_Te_addToken_1 (by decide) (by decide) ?_
  refine A_imul hC d_Te_addToken_3 (by omega) ?_
  refine A_ald0 hC d_Te_addToken_4 ?_
  refine A_getCR (v := 12) hC d_Te_addToken_5 fF_Te_9 ⟨by decide, rfl⟩ ly_11 (by omega) ⟨rfl, by decide⟩ cv_11_0 ?_
  refine A_ild1 hC d_Te_addToken_8 ?_
  refine A_iald hC d_Te_addToken_9 ly_12 (by omega) (by omega) ?_
  refine A_iadd hC d_Te_addToken_10 (by omega) ?_
  refine A_ist5 hC d_Te_addToken_11 ?_
  refine A_ald0 hC d_Te_addToken_13 ?_
  refine A_getCR (v := 13) hC d_Te_addToken_14 fF_Te_15 ⟨by decide, rfl⟩ ly_11 (by omega) ⟨rfl, by decide⟩ cv_11_1 ?_
  refine A_ild5 hC d_Te_addToken_17 ?_
  refine A_ild2 hC d_Te_addToken_19 ?_
  refine A_iast hC d_Te_addToken_20 ly_13 (by omega) (by omega) (fun _ => kk_i _) ?_
  refine A_ald0 hC d_Te_addToken_21 ?_
  refine A_getCR (v := 14) hC d_Te_addToken_22 fF_Te_18 ⟨by decide, rfl⟩ ly_11 (by omega) ⟨rfl, by decide⟩ cv_11_2 ?_
  refine A_ild5 hC d_Te_addToken_25 ?_
  refine A_ild3 hC d_Te_addToken_27 ?_
  refine A_iast hC d_Te_addToken_28 ly_14 (by omega) (by omega) (fun _ => kk_i _) ?_
  refine A_ald0 hC d_Te_addToken_29 ?_
  refine A_getCR (v := 15) hC d_Te_addToken_30 fF_Te_21 ⟨by decide, rfl⟩ ly_11 (by omega) ⟨rfl, by decide⟩ cv_11_3 ?_
  refine A_ild5 hC d_Te_addToken_33 ?_
  refine A_ild4 hC d_Te_addToken_35 ?_
  refine A_iast hC d_Te_addToken_37 ly_15 (by omega) (by omega) (fun _ => kk_i _) ?_
  refine A_ald0 hC d_Te_addToken_38 ?_
  refine A_getCR (v := 12) hC d_Te_addToken_39 fF_Te_9 ⟨by decide, rfl⟩ ly_11 (by omega) ⟨rfl, by decide⟩ cv_11_0 ?_
  refine A_ild1 hC d_Te_addToken_42 ?_
  refine A_dup2 hC d_Te_addToken_43 ?_
  refine A_ialdE (x := M 12 t) hC d_Te_addToken_44 ly_12 (by omega) (by omega) (by rw [up_nc (c := 15) (c' := 12) (by decide), up_nc (c := 14) (c' := 12) (by decide), up_nc (c := 13) (c' := 12) (by decide)]) ?_
  refine A_iconst hC d_Te_addToken_45 (by decide) ?_
  refine A_iadd hC d_Te_addToken_46 (by omega) ?_
  refine A_iast hC d_Te_addToken_47 ly_12 (by omega) (by omega) (fun _ => kk_i _) ?_
  refine A_ald0 hC d_Te_addToken_48 ?_
  refine A_getCR (v := 12) hC d_Te_addToken_49 fF_Te_9 ⟨by decide, rfl⟩ ly_11 (by omega) ⟨rfl, by decide⟩ cv_11_0 ?_
  refine A_ild1 hC d_Te_addToken_52 ?_
  refine A_ialdE (x := (M 12 t) + 1) hC d_Te_addToken_53 ly_12 (by omega) (by omega) (by rw [up_eq]) ?_
  refine A_iret hC d_Te_addToken_54 rfl (Nat.le_refl _) (Nat.le_refl _) ?_
  exact ⟨rfl, rfl, rfl⟩
set_option maxHeartbeats 4000000 in
theorem k_St_isEntry (l : Launch) (n : Nat) (M : Mem) (hn : 117 ≤ n) (s : Int) (hs : 20 ≤ s ∧ s < 81) : AF l m_St_isEntry 1 [.inr s] n M (some (.inl (if M s 1 = 0 ∨ M s 1 = 1 ∨ M s 1 = 2 then 1 else 0))) M := by
  refine AM_intro (by decide) (Nat.le_of_ble_eq_true rfl) (fun X b0 D hC _ => ?_)
  show AW X b0 D true 0 0 _ n M 0 [some (.inr s)] []
  refine A_ald0 hC d_St_isEntry_0 ?_
  refine A_getI (kI := 1) hC d_St_isEntry_1 fF_St_15 ⟨by decide, rfl⟩ rfl (ly_S (by omega)) (by omega) ?_
  refine A_ifeq (tgt := 23) hC d_St_isEntry_4 (by decide) (fun h4 => ?_) (fun h4 => ?_)
  · refine A_iconst hC d_St_isEntry_23 (by decide) ?_
    refine A_goto (tgt := 28) hC d_St_isEntry_24 (by decide) ?_
    refine A_zret hC d_St_isEntry_28 rfl (Nat.le_refl _) (Nat.le_refl _) (by first | decide | omega) ?_
    exact ⟨fx_r (by split <;> omega), rfl, rfl⟩
  · refine A_ald0 hC d_St_isEntry_7 ?_
    refine A_getI (kI := 1) hC d_St_isEntry_8 fF_St_15 ⟨by decide, rfl⟩ rfl (ly_S (by omega)) (by omega) ?_
    refine A_iconst hC d_St_isEntry_11 (by decide) ?_
    refine A_icmpeq (tgt := 23) hC d_St_isEntry_12 (by decide) (fun h12 => ?_) (fun h12 => ?_)
    · refine A_iconst hC d_St_isEntry_23 (by decide) ?_
      refine A_goto (tgt := 28) hC d_St_isEntry_24 (by decide) ?_
      refine A_zret hC d_St_isEntry_28 rfl (Nat.le_refl _) (Nat.le_refl _) (by first | decide | omega) ?_
      exact ⟨fx_r (by split <;> omega), rfl, rfl⟩
    · refine A_ald0 hC d_St_isEntry_15 ?_
      refine A_getI (kI := 1) hC d_St_isEntry_16 fF_St_15 ⟨by decide, rfl⟩ rfl (ly_S (by omega)) (by omega) ?_
      refine A_iconst hC d_St_isEntry_19 (by decide) ?_
      refine A_icmpne (tgt := 27) hC d_St_isEntry_20 (by decide) (fun h20 => ?_) (fun h20 => ?_)
      · refine A_iconst hC d_St_isEntry_27 (by decide) ?_
        refine A_zret hC d_St_isEntry_28 rfl (Nat.le_refl _) (Nat.le_refl _) (by first | decide | omega) ?_
        exact ⟨fx_r (by split <;> omega), rfl, rfl⟩
      · refine A_iconst hC d_St_isEntry_23 (by decide) ?_
        refine A_goto (tgt := 28) hC d_St_isEntry_24 (by decide) ?_
        refine A_zret hC d_St_isEntry_28 rfl (Nat.le_refl _) (Nat.le_refl _) (by first | decide | omega) ?_
        exact ⟨fx_r (by split <;> omega), rfl, rfl⟩
set_option maxHeartbeats 4000000 in
theorem k_Pa_forgetAll (l : Launch) (n : Nat) (M : Mem) (hn : 117 ≤ n) : AF l m_Pa_forgetAll 1 [.inr 83] n M none (up (up M 83 3 0) 83 4 0) := by
  refine AM_intro (by decide) (Nat.le_of_ble_eq_true rfl) (fun X b0 D hC _ => ?_)
  show AW X b0 D true 0 0 _ n M 0 [some (.inr 83)] []
  refine A_ald0 hC d_Pa_forgetAll_0 ?_
  refine A_iconst hC d_Pa_forgetAll_1 (by decide) ?_
  refine A_putI (kI := 3) hC d_Pa_forgetAll_2 fP_Pa_21 ⟨by decide, rfl⟩ rfl ly_83 (by omega) (fun _ => by decide) ?_
  refine A_ald0 hC d_Pa_forgetAll_5 ?_
  refine A_iconst hC d_Pa_forgetAll_6 (by decide) ?_
  refine A_putI (kI := 4) hC d_Pa_forgetAll_7 fP_Pa_25 ⟨by decide, rfl⟩ rfl ly_83 (by omega) (fun _ => by decide) ?_
  refine A_vret hC d_Pa_forgetAll_10 rfl (Nat.le_refl _) (Nat.le_refl _) ?_
  exact ⟨rfl, rfl, rfl⟩
set_option maxHeartbeats 4000000 in
theorem k_As_forget (l : Launch) (n : Nat) (M : Mem) (hn : 117 ≤ n) : AF l m_As_forget 2 [.inr 81] n M none (up (up (up M 81 4 0) 83 3 0) 83 4 0) := by
  refine AM_intro (by decide) (Nat.le_of_ble_eq_true rfl) (fun X b0 D hC _ => ?_)
  show AW X b0 D true 0 0 _ n M 0 [some (.inr 81)] []
  refine A_ald0 hC d_As_forget_0 ?_
  refine A_iconst hC d_As_forget_1 (by decide) ?_
  refine A_putI (kI := 4) hC d_As_forget_2 fP_As_30 ⟨by decide, rfl⟩ rfl ly_81 (by omega) (fun _ => by decide) ?_
  refine A_ald0 hC d_As_forget_5 ?_
  refine A_getCR (v := 83) hC d_As_forget_6 fF_As_12 ⟨by decide, rfl⟩ ly_81 (by omega) ⟨rfl, by decide⟩ cv_81_2 ?_
  refine A_VF0 (as := []) hC d_As_forget_9 mv_Pa_forgetAll lk_As_34 (by decide) sel_Pa_forgetAll hq_Pa ly_83 (by omega) (k_Pa_forgetAll l n (up M 81 4 0) hn) rfl rfl (Nat.le_of_ble_eq_true rfl) ⟨Nat.zero_le _, Nat.zero_le _⟩ rfl ?_
  refine A_vret hC d_As_forget_12 rfl (Nat.le_refl _) (Nat.le_refl _) ?_
  exact ⟨rfl, rfl, rfl⟩
def goI (M : Mem) (p : Int) : Mem := if M 83 3 < 26 then up (up M 84 (M 83 3) p) 83 3 (M 83 3 + 1) else M
set_option maxHeartbeats 4000000 in
theorem k_Pa_goInto (l : Launch) (n : Nat) (M : Mem) (hn : 117 ≤ n) (p : Int) (hh : 0 ≤ M 83 3 ∧ M 83 3 ≤ 26) : AF l m_Pa_goInto 1 [.inr 83, .inl p] n M none (goI M p) := by
  refine AM_intro (by decide) (Nat.le_of_ble_eq_true rfl) (fun X b0 D hC _ => ?_)
  show AW X b0 D true 0 0 _ n M 0 [some (.inr 83), some (.inl p)] []
  refine A_ald0 hC d_Pa_goInto_0 ?_
  refine A_getI (kI := 3) hC d_Pa_goInto_1 fF_Pa_21 ⟨by decide, rfl⟩ rfl ly_83 (by omega) ?_
  refine A_bipush hC d_Pa_goInto_4 (by decide) (by decide) ?_
  refine A_icmpge (tgt := 29) hC d_Pa_goInto_6 (by decide) (fun h6 => ?_) (fun h6 => ?_)
  · refine A_vret hC d_Pa_goInto_29 rfl (Nat.le_refl _) (Nat.le_refl _) ?_
    exact ⟨rfl, rfl, by unfold goI; first | rw [if_pos (by omega)] | rw [if_neg (by omega)]⟩
  · refine A_ald0 hC d_Pa_goInto_9 ?_
    refine A_getCR (v := 84) hC d_Pa_goInto_10 fF_Pa_9 ⟨by decide, rfl⟩ ly_83 (by omega) ⟨rfl, by decide⟩ cv_83_0 ?_
    refine A_ald0 hC d_Pa_goInto_13 ?_
    refine A_getI (kI := 3) hC d_Pa_goInto_14 fF_Pa_21 ⟨by decide, rfl⟩ rfl ly_83 (by omega) ?_
    refine A_ild1 hC d_Pa_goInto_17 ?_
    refine A_iast hC d_Pa_goInto_18 ly_84 (by omega) (by omega) (fun _ => kk_i _) ?_
    refine A_ald0 hC d_Pa_goInto_19 ?_
    refine A_dup hC d_Pa_goInto_20 ?_
    refine A_getIE (x := M 83 3) (kI := 3) hC d_Pa_goInto_21 fF_Pa_21 ⟨by decide, rfl⟩ rfl ly_83 (by omega) (by rw [up_nc (c := 84) (c' := 83) (by decide)]) ?_
    refine A_iconst hC d_Pa_goInto_24 (by decide) ?_
    refine A_iadd hC d_Pa_goInto_25 (by omega) ?_
    refine A_putI (kI := 3) hC d_Pa_goInto_26 fP_Pa_21 ⟨by decide, rfl⟩ rfl ly_83 (by omega) (fun _ => by decide) ?_
    refine A_vret hC d_Pa_goInto_29 rfl (Nat.le_refl _) (Nat.le_refl _) ?_
    exact ⟨rfl, rfl, by unfold goI; first | rw [if_pos (by omega)] | rw [if_neg (by omega)]⟩
def goO (M : Mem) : Mem := up M 83 3 (if 0 < M 83 3 - 1 then M 83 3 - 1 else 0)
set_option maxHeartbeats 4000000 in
theorem k_Pa_goOut (l : Launch) (n : Nat) (M : Mem) (hn : 117 ≤ n) (hh : 0 ≤ M 83 3 ∧ M 83 3 ≤ 26) : AF l m_Pa_goOut 1 [.inr 83] n M none (goO M) := by
  refine AM_intro (by decide) (Nat.le_of_ble_eq_true rfl) (fun X b0 D hC _ => ?_)
  show AW X b0 D true 0 0 _ n M 0 [some (.inr 83)] []
  refine A_ald0 hC d_Pa_goOut_0 ?_
  refine A_iconst hC d_Pa_goOut_1 (by decide) ?_
  refine A_ald0 hC d_Pa_goOut_2 ?_
  refine A_getI (kI := 3) hC d_Pa_goOut_3 fF_Pa_21 ⟨by decide, rfl⟩ rfl ly_83 (by omega) ?_
  refine A_iconst hC d_Pa_goOut_6 (by decide) ?_
  refine A_isub hC d_Pa_goOut_7 (by omega) ?_
  refine A_mmax hC d_Pa_goOut_8 lk_Pa_28 zs_max zi_Math zc_max (by decide) (Nat.le_of_ble_eq_true rfl) ⟨Nat.zero_le _, Nat.zero_le _⟩ rfl ?_
  refine A_putI (kI := 3) hC d_Pa_goOut_11 fP_Pa_21 ⟨by decide, rfl⟩ rfl ly_83 (by omega) (fun _ => by decide) ?_
  refine A_vret hC d_Pa_goOut_14 rfl (Nat.le_refl _) (Nat.le_refl _) ?_
  exact ⟨rfl, rfl, rfl⟩
def ntH (M : Mem) : Mem := if M 83 4 < 60 then up (up (cpy M 84 0 86 (M 83 4 * 26) (M 83 3)) 85 (M 83 4) (M 83 3)) 83 4 (M 83 4 + 1) else M
set_option maxHeartbeats 4000000 in
theorem k_As_cutBack (l : Launch) (n : Nat) (M : Mem) (hn : 117 ≤ n) (s : Int) (hs : 0 ≤ s ∧ s < 120) : AF l m_As_cutBack 1 [.inr 81, .inl s] n M none (up (up M 87 s 1) 81 4 (s + 1)) := by
  refine AM_intro (by decide) (Nat.le_of_ble_eq_true rfl) (fun X b0 D hC _ => ?_)
  show AW X b0 D true 0 0 _ n M 0 [some (.inr 81), some (.inl s)] []
  refine A_ald0 hC d_As_cutBack_0 ?_
  refine A_getCR (v := 87) hC d_As_cutBack_1 fF_As_18 ⟨by decide, rfl⟩ ly_81 (by omega) ⟨rfl, by decide⟩ cv_81_3 ?_
  refine A_ild1 hC d_As_cutBack_4 ?_
  refine A_iconst hC d_As_cutBack_5 (by decide) ?_
  refine A_iast hC d_As_cutBack_6 ly_87 (by omega) (by omega) (fun _ => kk_i _) ?_
  refine A_ald0 hC d_As_cutBack_7 ?_
  refine A_ild1 hC d_As_cutBack_8 ?_
  refine A_iconst hC d_As_cutBack_9 (by decide) ?_
  refine A_iadd hC d_As_cutBack_10 (by omega) ?_
  refine A_putI (kI := 4) hC d_As_cutBack_11 fP_As_30 ⟨by decide, rfl⟩ rfl ly_81 (by omega) (fun _ => by decide) ?_
  refine A_vret hC d_As_cutBack_14 rfl (Nat.le_refl _) (Nat.le_refl _) ?_
  exact ⟨rfl, rfl, rfl⟩
def adC (M : Mem) (c : Int) : Mem := if ¬ M 81 6 = 0 then M else if 120 ≤ M 81 5 then up M 81 6 (-5) else up (up (up M 81 5 (M 81 5 + 1)) 87 (M 81 4) c) 81 4 (M 81 4 + 1)
set_option maxHeartbeats 4000000 in
theorem k_As_addCode (l : Launch) (n : Nat) (M : Mem) (hn : 117 ≤ n) (c : Int) (hc : 0 ≤ M 81 4 ∧ M 81 4 ≤ M 81 5 ∧ M 81 5 ≤ 120) : AF l m_As_addCode 1 [.inr 81, .inl c] n M none (adC M c) := by
  refine AM_intro (by decide) (Nat.le_of_ble_eq_true rfl) (fun X b0 D hC _ => ?_)
  show AW X b0 D true 0 0 _ n M 0 [some (.inr 81), some (.inl c)] []
  refine A_ald0 hC d_As_addCode_0 ?_
  refine A_getI (kI := 6) hC d_As_addCode_1 fF_As_43 ⟨by decide, rfl⟩ rfl ly_81 (by omega) ?_
  refine A_ifeq (tgt := 8) hC d_As_addCode_4 (by decide) (fun h4 => ?_) (fun h4 => ?_)
  · refine A_ald0 hC d_As_addCode_8 ?_
    refine A_getI (kI := 5) hC d_As_addCode_9 fF_As_40 ⟨by decide, rfl⟩ rfl ly_81 (by omega) ?_
    refine A_bipush hC d_As_addCode_12 (by decide) (by decide) ?_
    refine A_icmplt (tgt := 24) hC d_As_addCode_14 (by decide) (fun h14 => ?_) (fun h14 => ?_)
    · refine A_ald0 hC d_As_addCode_24 ?_
      refine A_dup hC d_As_addCode_25 ?_
      refine A_getI (kI := 5) hC d_As_addCode_26 fF_As_40 ⟨by decide, rfl⟩ rfl ly_81 (by omega) ?_
      refine A_iconst hC d_As_addCode_29 (by decide) ?_
      refine A_iadd hC d_As_addCode_30 (by omega) ?_
      refine A_putI (kI := 5) hC d_As_addCode_31 fP_As_40 ⟨by decide, rfl⟩ rfl ly_81 (by omega) (fun _ => by decide) ?_
      refine A_ald0 hC d_As_addCode_34 ?_
      refine A_getCR (v := 87) hC d_As_addCode_35 fF_As_18 ⟨by decide, rfl⟩ ly_81 (by omega) ⟨rfl, by decide⟩ cv_81_3 ?_
      refine A_ald0 hC d_As_addCode_38 ?_
      refine A_getIE (x := M 81 4) (kI := 4) hC d_As_addCode_39 fF_As_30 ⟨by decide, rfl⟩ rfl ly_81 (by omega) (by rw [up_nk (k := 5) (k' := 4) (by decide)]) ?_
      refine A_ild1 hC d_As_addCode_42 ?_
      refine A_iast hC d_As_addCode_43 ly_87 (by omega) (by omega) (fun _ => kk_i _) ?_
      refine A_ald0 hC d_As_addCode_44 ?_
      refine A_dup hC d_As_addCode_45 ?_
      refine A_getIE (x := M 81 4) (kI := 4) hC d_As_addCode_46 fF_As_30 ⟨by decide, rfl⟩ rfl ly_81 (by omega) (by rw [up_nc (c := 87) (c' := 81) (by decide), up_nk (k := 5) (k' := 4) (by decide)]) ?_
      refine A_iconst hC d_As_addCode_49 (by decide) ?_
      refine A_iadd hC d_As_addCode_50 (by omega) ?_
      refine A_putI (kI := 4) hC d_As_addCode_51 fP_As_30 ⟨by decide, rfl⟩ rfl ly_81 (by omega) (fun _ => by decide) ?_
      refine A_vret hC d_As_addCode_54 rfl (Nat.le_refl _) (Nat.le_refl _) ?_
      exact ⟨rfl, rfl, by unfold adC; first | rw [if_pos (by omega)] | rw [if_neg (by omega), if_pos (by omega)] | rw [if_neg (by omega), if_neg (by omega)]⟩
    · refine A_ald0 hC d_As_addCode_17 ?_
      refine A_bipush hC d_As_addCode_18 (by decide) (by decide) ?_
      refine A_putI (kI := 6) hC d_As_addCode_20 fP_As_43 ⟨by decide, rfl⟩ rfl ly_81 (by omega) (fun _ => by decide) ?_
      refine A_vret hC d_As_addCode_23 rfl (Nat.le_refl _) (Nat.le_refl _) ?_
      exact ⟨rfl, rfl, by unfold adC; first | rw [if_pos (by omega)] | rw [if_neg (by omega), if_pos (by omega)] | rw [if_neg (by omega), if_neg (by omega)]⟩
  · refine A_vret hC d_As_addCode_7 rfl (Nat.le_refl _) (Nat.le_refl _) ?_
    exact ⟨rfl, rfl, by unfold adC; first | rw [if_pos (by omega)] | rw [if_neg (by omega), if_pos (by omega)] | rw [if_neg (by omega), if_neg (by omega)]⟩
end
section
/-- the rows are at most twelve -/
def RC (M : Mem) : Prop := 0 ≤ M 6 4 ∧ M 6 4 ≤ 12
abbrev kIn (M : Mem) (r f : Int) : Int := if 1 ≤ r ∧ r ≤ M 6 4 then (if hasF M (M 7 (r - 1)) f then M 3 (M 7 (r - 1) * 4 + f) else -1) else -1
set_option maxHeartbeats 4000000 in
theorem k_G_kindIn (l : Launch) (n : Nat) (M : Mem) (hn : 117 ≤ n) (hS : SC M) (hR : RC M) (r f : Int) : AF l m_G_kindIn 4 [.inr 0, .inl r, .inl f] n M (some (.inl (kIn M r f))) M := by
  refine AM_intro (by decide) (Nat.le_of_ble_eq_true rfl) (fun X b0 D hC _ => ?_)
  show AW X b0 D true 0 0 _ n M 0 [some (.inr 0), some (.inl r), some (.inl f)] []
  have hS1 := hS.1
  have hS2 := hS.2.1
  have hR1 := hR.1
  have hR2 := hR.2
  have hS3 := hS.2.2 (M 7 (r - 1))
  refine A_ald0 hC d_G_kindIn_0 ?_
  refine A_getCR (v := 6) hC d_G_kindIn_1 fF_G_19 ⟨by decide, rfl⟩ ly_0 (by omega) ⟨rfl, by decide⟩ cv_0_1 ?_
  refine A_ild1 hC d_G_kindIn_4 ?_
  refine A_VF1 (as := [.inl r]) hC d_G_kindIn_5 mv_Ro_hasRow lk_G_95 (by decide) sel_Ro_hasRow hq_Ro ly_6 (by omega) (k_Ro_hasRow l n M hn r) rfl rfl (Nat.le_of_ble_eq_true rfl) ⟨Nat.zero_le _, Nat.zero_le _⟩ rfl ?_
  refine A_ifeq (tgt := 30) hC d_G_kindIn_8 (by decide) (fun h8 => ?_) (fun h8 => ?_)
  · refine A_iconst hC d_G_kindIn_30 (by decide) ?_
    refine A_iret hC d_G_kindIn_31 rfl (Nat.le_refl _) (Nat.le_refl _) ?_
    exact ⟨fx_r (by unfold kIn; repeat (first | omega | split)), rfl, rfl⟩
  · refine A_ald0 hC d_G_kindIn_11 ?_
    refine A_getCR (v := 1) hC d_G_kindIn_12 fF_G_12 ⟨by decide, rfl⟩ ly_0 (by omega) ⟨rfl, by decide⟩ cv_0_0 ?_
    refine A_ald0 hC d_G_kindIn_15 ?_
    refine A_getCR (v := 6) hC d_G_kindIn_16 fF_G_19 ⟨by decide, rfl⟩ ly_0 (by omega) ⟨rfl, by decide⟩ cv_0_1 ?_
    refine A_ild1 hC d_G_kindIn_19 ?_
    refine A_VF1 (as := [.inl r]) hC d_G_kindIn_20 mv_Ro_typeOf lk_G_98 (by decide) sel_Ro_typeOf hq_Ro ly_6 (by omega) (k_Ro_typeOf l n M hn r (by omega)) rfl rfl (Nat.le_of_ble_eq_true rfl) ⟨Nat.zero_le _, Nat.zero_le _⟩ rfl ?_
    refine A_ild2 hC d_G_kindIn_23 ?_
    refine A_VF1 (as := [.inl (M 7 (r - 1)), .inl f]) hC d_G_kindIn_24 mv_Sc_kindOf lk_G_160 (by decide) sel_Sc_kindOf hq_Sc ly_1 (by omega) (k_Sc_kindOf l n M hn hS (M 7 (r - 1)) f) rfl rfl (Nat.le_of_ble_eq_true rfl) ⟨Nat.zero_le _, Nat.zero_le _⟩ rfl ?_
    refine A_goto (tgt := 31) hC d_G_kindIn_27 (by decide) ?_
    refine A_iret hC d_G_kindIn_31 rfl (Nat.le_refl _) (Nat.le_refl _) ?_
    exact ⟨fx_r (by unfold kIn; repeat (first | omega | split)), rfl, rfl⟩
theorem kIn_in {M : Mem} {r f : Int} (h : ¬ kIn M r f = -1) : (1 ≤ r ∧ r ≤ M 6 4) ∧ hasF M (M 7 (r - 1)) f := by
  unfold kIn at h
  split at h
  · rename_i h1
    refine ⟨h1, ?_⟩
    split at h
    · assumption
    · exact absurd rfl h
  · exact absurd rfl h
set_option maxHeartbeats 4000000 in
theorem k_G_type (l : Launch) (n : Nat) (M : Mem) (hn : 117 ≤ n) (hS : SC M) : AF l m_G_type 2 [.inr 0] n M (some (.inl (if 5 ≤ M 1 4 ∨ 0 < M 6 4 then -2 else M 1 4))) (if 5 ≤ M 1 4 ∨ 0 < M 6 4 then M else up M 1 4 (M 1 4 + 1)) := by
  refine AM_intro (by decide) (Nat.le_of_ble_eq_true rfl) (fun X b0 D hC _ => ?_)
  show AW X b0 D true 0 0 _ n M 0 [some (.inr 0)] []
  refine A_ald0 hC d_G_type_0 ?_
  refine A_getCR (v := 1) hC d_G_type_1 fF_G_12 ⟨by decide, rfl⟩ ly_0 (by omega) ⟨rfl, by decide⟩ cv_0_0 ?_
  refine A_getI (kI := 4) hC d_G_type_4 fF_G_57 ⟨by decide, rfl⟩ rfl ly_1 (by omega) ?_
  refine A_iconst hC d_G_type_7 (by decide) ?_
  refine A_icmpge (tgt := 21) hC d_G_type_8 (by decide) (fun h8 => ?_) (fun h8 => ?_)
  · refine A_bipush hC d_G_type_21 (by decide) (by decide) ?_
    refine A_iret hC d_G_type_23 rfl (Nat.le_refl _) (Nat.le_refl _) ?_
    exact ⟨fx_r (by repeat (first | omega | split)), rfl, by repeat (first | rfl | omega | split)⟩
  · refine A_ald0 hC d_G_type_11 ?_
    refine A_getCR (v := 6) hC d_G_type_12 fF_G_19 ⟨by decide, rfl⟩ ly_0 (by omega) ⟨rfl, by decide⟩ cv_0_1 ?_
    refine A_getI (kI := 4) hC d_G_type_15 fF_G_61 ⟨by decide, rfl⟩ rfl ly_6 (by omega) ?_
    refine A_ifle (tgt := 24) hC d_G_type_18 (by decide) (fun h18 => ?_) (fun h18 => ?_)
    · refine A_ald0 hC d_G_type_24 ?_
      refine A_getCR (v := 1) hC d_G_type_25 fF_G_12 ⟨by decide, rfl⟩ ly_0 (by omega) ⟨rfl, by decide⟩ cv_0_0 ?_
      refine A_VF1 (as := []) hC d_G_type_28 mv_Sc_addType lk_G_64 (by decide) sel_Sc_addType hq_Sc ly_1 (by omega) (k_Sc_addType l n M hn hS) rfl rfl (Nat.le_of_ble_eq_true rfl) ⟨Nat.zero_le _, Nat.zero_le _⟩ rfl ?_
      refine A_iret hC d_G_type_31 rfl (Nat.le_refl _) (Nat.le_refl _) ?_
      exact ⟨fx_r (by repeat (first | omega | split)), rfl, by repeat (first | rfl | omega | split)⟩
    · refine A_bipush hC d_G_type_21 (by decide) (by decide) ?_
      refine A_iret hC d_G_type_23 rfl (Nat.le_refl _) (Nat.le_refl _) ?_
      exact ⟨fx_r (by repeat (first | omega | split)), rfl, by repeat (first | rfl | omega | split)⟩
abbrev fdB (M : Mem) (t k g : Int) : Prop := ¬ (0 ≤ t ∧ t < M 1 4) ∨ ¬ (0 ≤ k ∧ k ≤ 2) ∨ ¬ (0 ≤ g ∧ g ≤ 5) ∨ (¬ k = 0 ∧ ¬ g = 5 ∧ ¬ (0 ≤ g ∧ g < M 1 4))
abbrev fdF (M : Mem) (t : Int) : Prop := 0 < M 6 4 ∨ 4 ≤ M 2 t
set_option maxHeartbeats 4000000 in
theorem k_G_field (l : Launch) (n : Nat) (M : Mem) (hn : 117 ≤ n) (hS : SC M) (t k g r : Int) (hr : r = 0 ∨ r = 1) : AF l m_G_field 2 [.inr 0, .inl t, .inl k, .inl g, .inl r] n M (some (.inl (if fdB M t k g then -1 else if fdF M t then -2 else M 2 t))) (if fdB M t k g then M else if fdF M t then M else up (up (up (up M 3 (t * 4 + M 2 t) k) 4 (t * 4 + M 2 t) g) 5 (t * 4 + M 2 t) r) 2 t (M 2 t + 1)) := by
  refine AM_intro (by decide) (Nat.le_of_ble_eq_true rfl) (fun X b0 D hC _ => ?_)
  show AW X b0 D true 0 0 _ n M 0 [some (.inr 0), some (.inl t), some (.inl k), some (.inl g), some (.inl r)] []
  have hS1 := hS.1
  have hS2 := hS.2.1
  have hS3 := hS.2.2 t
  refine A_ald0 hC d_G_field_0 ?_
  refine A_getCR (v := 1) hC d_G_field_1 fF_G_12 ⟨by decide, rfl⟩ ly_0 (by omega) ⟨rfl, by decide⟩ cv_0_0 ?_
  refine A_ild1 hC d_G_field_4 ?_
  refine A_VF1 (as := [.inl t]) hC d_G_field_5 mv_Sc_hasType lk_G_68 (by decide) sel_Sc_hasType hq_Sc ly_1 (by omega) (k_Sc_hasType l n M hn t) rfl rfl (Nat.le_of_ble_eq_true rfl) ⟨Nat.zero_le _, Nat.zero_le _⟩ rfl ?_
  refine A_ifeq (tgt := 29) hC d_G_field_8 (by decide) (fun h8 => ?_) (fun h8 => ?_)
  · refine A_iconst hC d_G_field_29 (by decide) ?_
    refine A_iret hC d_G_field_30 rfl (Nat.le_refl _) (Nat.le_refl _) ?_
    exact ⟨fx_r (by repeat (first | omega | split)), rfl, by repeat (first | rfl | omega | split)⟩
  · refine A_ild2 hC d_G_field_11 ?_
    refine A_iconst hC d_G_field_12 (by decide) ?_
    refine A_iconst hC d_G_field_13 (by decide) ?_
    refine A_SF1 (as := [.inl k, .inl 0, .inl 2]) hC d_G_field_14 mv_G_isWithin lk_G_72 (by decide) (k_G_isWithin l n M hn k 0 2) rfl rfl (Nat.le_of_ble_eq_true rfl) ⟨Nat.zero_le _, Nat.zero_le _⟩ rfl ?_
    refine A_ifeq (tgt := 29) hC d_G_field_17 (by decide) (fun h17 => ?_) (fun h17 => ?_)
    · refine A_iconst hC d_G_field_29 (by decide) ?_
      refine A_iret hC d_G_field_30 rfl (Nat.le_refl _) (Nat.le_refl _) ?_
      exact ⟨fx_r (by repeat (first | omega | split)), rfl, by repeat (first | rfl | omega | split)⟩
    · refine A_ild3 hC d_G_field_20 ?_
      refine A_iconst hC d_G_field_21 (by decide) ?_
      refine A_iconst hC d_G_field_22 (by decide) ?_
      refine A_SF1 (as := [.inl g, .inl 0, .inl 5]) hC d_G_field_23 mv_G_isWithin lk_G_72 (by decide) (k_G_isWithin l n M hn g 0 5) rfl rfl (Nat.le_of_ble_eq_true rfl) ⟨Nat.zero_le _, Nat.zero_le _⟩ rfl ?_
      refine A_ifne (tgt := 31) hC d_G_field_26 (by decide) (fun h26 => ?_) (fun h26 => ?_)
      · refine A_ild2 hC d_G_field_31 ?_
        refine A_ifeq (tgt := 53) hC d_G_field_32 (by decide) (fun h32 => ?_) (fun h32 => ?_)
        · refine A_ald0 hC d_G_field_53 ?_
          refine A_getCR (v := 6) hC d_G_field_54 fF_G_19 ⟨by decide, rfl⟩ ly_0 (by omega) ⟨rfl, by decide⟩ cv_0_1 ?_
          refine A_getI (kI := 4) hC d_G_field_57 fF_G_61 ⟨by decide, rfl⟩ rfl ly_6 (by omega) ?_
          refine A_ifgt (tgt := 76) hC d_G_field_60 (by decide) (fun h60 => ?_) (fun h60 => ?_)
          · refine A_bipush hC d_G_field_76 (by decide) (by decide) ?_
            refine A_iret hC d_G_field_78 rfl (Nat.le_refl _) (Nat.le_refl _) ?_
            exact ⟨fx_r (by repeat (first | omega | split)), rfl, by repeat (first | rfl | omega | split)⟩
          · refine A_ald0 hC d_G_field_63 ?_
            refine A_getCR (v := 1) hC d_G_field_64 fF_G_12 ⟨by decide, rfl⟩ ly_0 (by omega) ⟨rfl, by decide⟩ cv_0_0 ?_
            refine A_getCR (v := 2) hC d_G_field_67 fF_G_76 ⟨by decide, rfl⟩ ly_1 (by omega) ⟨rfl, by decide⟩ cv_1_0 ?_
            refine A_ild1 hC d_G_field_70 ?_
            refine A_iald hC d_G_field_71 ly_2 (by omega) (by omega) ?_
            refine A_iconst hC d_G_field_72 (by decide) ?_
            refine A_icmplt (tgt := 79) hC d_G_field_73 (by decide) (fun h73 => ?_) (fun h73 => ?_)
            · refine A_ald0 hC d_G_field_79 ?_
              refine A_getCR (v := 1) hC d_G_field_80 fF_G_12 ⟨by decide, rfl⟩ ly_0 (by omega) ⟨rfl, by decide⟩ cv_0_0 ?_
              refine A_ild1 hC d_G_field_83 ?_
              refine A_ild2 hC d_G_field_84 ?_
              refine A_ild3 hC d_G_field_85 ?_
              refine A_ild4 hC d_G_field_86 ?_
              refine A_VF1 (as := [.inl t, .inl k, .inl g, .inl r]) hC d_G_field_88 mv_Sc_addField lk_G_79 (by decide) sel_Sc_addField hq_Sc ly_1 (by omega) (k_Sc_addField l n M hn t k g r (by omega) (by omega) (by omega)) rfl rfl (Nat.le_of_ble_eq_true rfl) ⟨Nat.zero_le _, Nat.zero_le _⟩ rfl ?_
              refine A_iret hC d_G_field_91 rfl (Nat.le_refl _) (Nat.le_refl _) ?_
              exact ⟨fx_r (by repeat (first | omega | split)), rfl, by repeat (first | rfl | omega | split)⟩
            · refine A_bipush hC d_G_field_76 (by decide) (by decide) ?_
              refine A_iret hC d_G_field_78 rfl (Nat.le_refl _) (Nat.le_refl _) ?_
              exact ⟨fx_r (by repeat (first | omega | split)), rfl, by repeat (first | rfl | omega | split)⟩
        · refine A_ild3 hC d_G_field_35 ?_
          refine A_iconst hC d_G_field_36 (by decide) ?_
          refine A_icmpeq (tgt := 53) hC d_G_field_37 (by decide) (fun h37 => ?_) (fun h37 => ?_)
          · refine A_ald0 hC d_G_field_53 ?_
            refine A_getCR (v := 6) hC d_G_field_54 fF_G_19 ⟨by decide, rfl⟩ ly_0 (by omega) ⟨rfl, by decide⟩ cv_0_1 ?_
            refine A_getI (kI := 4) hC d_G_field_57 fF_G_61 ⟨by decide, rfl⟩ rfl ly_6 (by omega) ?_
            refine A_ifgt (tgt := 76) hC d_G_field_60 (by decide) (fun h60 => ?_) (fun h60 => ?_)
            · refine A_bipush hC d_G_field_76 (by decide) (by decide) ?_
              refine A_iret hC d_G_field_78 rfl (Nat.le_refl _) (Nat.le_refl _) ?_
              exact ⟨fx_r (by repeat (first | omega | split)), rfl, by repeat (first | rfl | omega | split)⟩
            · refine A_ald0 hC d_G_field_63 ?_
              refine A_getCR (v := 1) hC d_G_field_64 fF_G_12 ⟨by decide, rfl⟩ ly_0 (by omega) ⟨rfl, by decide⟩ cv_0_0 ?_
              refine A_getCR (v := 2) hC d_G_field_67 fF_G_76 ⟨by decide, rfl⟩ ly_1 (by omega) ⟨rfl, by decide⟩ cv_1_0 ?_
              refine A_ild1 hC d_G_field_70 ?_
              refine A_iald hC d_G_field_71 ly_2 (by omega) (by omega) ?_
              refine A_iconst hC d_G_field_72 (by decide) ?_
              refine A_icmplt (tgt := 79) hC d_G_field_73 (by decide) (fun h73 => ?_) (fun h73 => ?_)
              · refine A_ald0 hC d_G_field_79 ?_
                refine A_getCR (v := 1) hC d_G_field_80 fF_G_12 ⟨by decide, rfl⟩ ly_0 (by omega) ⟨rfl, by decide⟩ cv_0_0 ?_
                refine A_ild1 hC d_G_field_83 ?_
                refine A_ild2 hC d_G_field_84 ?_
                refine A_ild3 hC d_G_field_85 ?_
                refine A_ild4 hC d_G_field_86 ?_
                refine A_VF1 (as := [.inl t, .inl k, .inl g, .inl r]) hC d_G_field_88 mv_Sc_addField lk_G_79 (by decide) sel_Sc_addField hq_Sc ly_1 (by omega) (k_Sc_addField l n M hn t k g r (by omega) (by omega) (by omega)) rfl rfl (Nat.le_of_ble_eq_true rfl) ⟨Nat.zero_le _, Nat.zero_le _⟩ rfl ?_
                refine A_iret hC d_G_field_91 rfl (Nat.le_refl _) (Nat.le_refl _) ?_
                exact ⟨fx_r (by repeat (first | omega | split)), rfl, by repeat (first | rfl | omega | split)⟩
              · refine A_bipush hC d_G_field_76 (by decide) (by decide) ?_
                refine A_iret hC d_G_field_78 rfl (Nat.le_refl _) (Nat.le_refl _) ?_
                exact ⟨fx_r (by repeat (first | omega | split)), rfl, by repeat (first | rfl | omega | split)⟩
          · refine A_ald0 hC d_G_field_40 ?_
            refine A_getCR (v := 1) hC d_G_field_41 fF_G_12 ⟨by decide, rfl⟩ ly_0 (by omega) ⟨rfl, by decide⟩ cv_0_0 ?_
            refine A_ild3 hC d_G_field_44 ?_
            refine A_VF1 (as := [.inl g]) hC d_G_field_45 mv_Sc_hasType lk_G_68 (by decide) sel_Sc_hasType hq_Sc ly_1 (by omega) (k_Sc_hasType l n M hn g) rfl rfl (Nat.le_of_ble_eq_true rfl) ⟨Nat.zero_le _, Nat.zero_le _⟩ rfl ?_
            refine A_ifne (tgt := 53) hC d_G_field_48 (by decide) (fun h48 => ?_) (fun h48 => ?_)
            · refine A_ald0 hC d_G_field_53 ?_
              refine A_getCR (v := 6) hC d_G_field_54 fF_G_19 ⟨by decide, rfl⟩ ly_0 (by omega) ⟨rfl, by decide⟩ cv_0_1 ?_
              refine A_getI (kI := 4) hC d_G_field_57 fF_G_61 ⟨by decide, rfl⟩ rfl ly_6 (by omega) ?_
              refine A_ifgt (tgt := 76) hC d_G_field_60 (by decide) (fun h60 => ?_) (fun h60 => ?_)
              · refine A_bipush hC d_G_field_76 (by decide) (by decide) ?_
                refine A_iret hC d_G_field_78 rfl (Nat.le_refl _) (Nat.le_refl _) ?_
                exact ⟨fx_r (by repeat (first | omega | split)), rfl, by repeat (first | rfl | omega | split)⟩
              · refine A_ald0 hC d_G_field_63 ?_
                refine A_getCR (v := 1) hC d_G_field_64 fF_G_12 ⟨by decide, rfl⟩ ly_0 (by omega) ⟨rfl, by decide⟩ cv_0_0 ?_
                refine A_getCR (v := 2) hC d_G_field_67 fF_G_76 ⟨by decide, rfl⟩ ly_1 (by omega) ⟨rfl, by decide⟩ cv_1_0 ?_
                refine A_ild1 hC d_G_field_70 ?_
                refine A_iald hC d_G_field_71 ly_2 (by omega) (by omega) ?_
                refine A_iconst hC d_G_field_72 (by decide) ?_
                refine A_icmplt (tgt := 79) hC d_G_field_73 (by decide) (fun h73 => ?_) (fun h73 => ?_)
                · refine A_ald0 hC d_G_field_79 ?_
                  refine A_getCR (v := 1) hC d_G_field_80 fF_G_12 ⟨by decide, rfl⟩ ly_0 (by omega) ⟨rfl, by decide⟩ cv_0_0 ?_
                  refine A_ild1 hC d_G_field_83 ?_
                  refine A_ild2 hC d_G_field_84 ?_
                  refine A_ild3 hC d_G_field_85 ?_
                  refine A_ild4 hC d_G_field_86 ?_
                  refine A_VF1 (as := [.inl t, .inl k, .inl g, .inl r]) hC d_G_field_88 mv_Sc_addField lk_G_79 (by decide) sel_Sc_addField hq_Sc ly_1 (by omega) (k_Sc_addField l n M hn t k g r (by omega) (by omega) (by omega)) rfl rfl (Nat.le_of_ble_eq_true rfl) ⟨Nat.zero_le _, Nat.zero_le _⟩ rfl ?_
                  refine A_iret hC d_G_field_91 rfl (Nat.le_refl _) (Nat.le_refl _) ?_
                  exact ⟨fx_r (by repeat (first | omega | split)), rfl, by repeat (first | rfl | omega | split)⟩
                · refine A_bipush hC d_G_field_76 (by decide) (by decide) ?_
                  refine A_iret hC d_G_field_78 rfl (Nat.le_refl _) (Nat.le_refl _) ?_
                  exact ⟨fx_r (by repeat (first | omega | split)), rfl, by repeat (first | rfl | omega | split)⟩
            · refine A_iconst hC d_G_field_51 (by decide) ?_
              refine A_iret hC d_G_field_52 rfl (Nat.le_refl _) (Nat.le_refl _) ?_
              exact ⟨fx_r (by repeat (first | omega | split)), rfl, by repeat (first | rfl | omega | split)⟩
      · refine A_iconst hC d_G_field_29 (by decide) ?_
        refine A_iret hC d_G_field_30 rfl (Nat.le_refl _) (Nat.le_refl _) ?_
        exact ⟨fx_r (by repeat (first | omega | split)), rfl, by repeat (first | rfl | omega | split)⟩
def adR (M : Mem) (t : Int) : Mem := up (up (up (up (up (up (up (up (up (up M 7 (M 6 4) t) 6 4 (M 6 4 + 1)) 8 (((M 6 4 + 1) - 1) * 4 + 0) (-1)) 9 (((M 6 4 + 1) - 1) * 4 + 0) 0) 8 (((M 6 4 + 1) - 1) * 4 + (0 + 1)) (-1)) 9 (((M 6 4 + 1) - 1) * 4 + (0 + 1)) 0) 8 (((M 6 4 + 1) - 1) * 4 + (0 + 1 + 1)) (-1)) 9 (((M 6 4 + 1) - 1) * 4 + (0 + 1 + 1)) 0) 8 (((M 6 4 + 1) - 1) * 4 + (0 + 1 + 1 + 1)) (-1)) 9 (((M 6 4 + 1) - 1) * 4 + (0 + 1 + 1 + 1)) 0
set_option maxHeartbeats 4000000 in
theorem k_Ro_addRow (l : Launch) (n : Nat) (M : Mem) (hn : 117 ≤ n) (t : Int) (hR : 0 ≤ M 6 4 ∧ M 6 4 ≤ 11) : AF l m_Ro_addRow 3 [.inr 6, .inl t] n M (some (.inl (M 6 4 + 1))) (adR M t) := by
  refine AM_intro (by decide) (Nat.le_of_ble_eq_true rfl) (fun X b0 D hC _ => ?_)
  show AW X b0 D true 0 0 _ n M 0 [some (.inr 6), some (.inl t), none] []
  refine A_ald0 hC d_Ro_addRow_0 ?_
  refine A_getCR (v := 7) hC d_Ro_addRow_1 fF_Ro_9 ⟨by decide, rfl⟩ ly_6 (by omega) ⟨rfl, by decide⟩ cv_6_0 ?_
  refine A_ald0 hC d_Ro_addRow_4 ?_
  refine A_getI (kI := 4) hC d_Ro_addRow_5 fF_Ro_24 ⟨by decide, rfl⟩ rfl ly_6 (by omega) ?_
  refine A_ild1 hC d_Ro_addRow_8 ?_
  refine A_iast hC d_Ro_addRow_9 ly_7 (by omega) (by omega) (fun _ => kk_i _) ?_
  refine A_ald0 hC d_Ro_addRow_10 ?_
  refine A_dup hC d_Ro_addRow_11 ?_
  refine A_getIE (x := M 6 4) (kI := 4) hC d_Ro_addRow_12 fF_Ro_24 ⟨by decide, rfl⟩ rfl ly_6 (by omega) (by rw [up_nc (c := 7) (c' := 6) (by decide)]) ?_
  refine A_iconst hC d_Ro_addRow_15 (by decide) ?_
  refine A_iadd hC d_Ro_addRow_16 (by omega) ?_
  refine A_putI (kI := 4) hC d_Ro_addRow_17 fP_Ro_24 ⟨by decide, rfl⟩ rfl ly_6 (by omega) (fun _ => by decide) ?_
  refine A_iconst hC d_Ro_addRow_20 (by decide) ?_
  refine A_ist2 hC d_Ro_addRow_21 ?_
  refine A_ild2 hC d_Ro_addRow_22 ?_
  refine A_iconst hC d_Ro_addRow_23 (by decide) ?_
  refine A_icmpge (tgt := 42) hC d_Ro_addRow_24 (by decide) (fun h24 => ?_) (fun h24 => ?_)
  · exact absurd h24 (by decide)
  refine A_ald0 hC d_Ro_addRow_27 ?_
  refine A_ald0 hC d_Ro_addRow_28 ?_
  refine A_getIE (x := (M 6 4) + 1) (kI := 4) hC d_Ro_addRow_29 fF_Ro_24 ⟨by decide, rfl⟩ rfl ly_6 (by omega) (by rw [up_eq]) ?_
  refine A_ild2 hC d_Ro_addRow_32 ?_
  refine A_VF0 (as := [.inl ((M 6 4) + 1), .inl 0]) hC d_Ro_addRow_33 mv_Ro_emptyField lk_Ro_32 (by decide) sel_Ro_emptyField hq_Ro ly_6 (by omega) (k_Ro_emptyField l n (up (up M 7 (M 6 4) t) 6 4 ((M 6 4) + 1)) hn ((M 6 4) + 1) 0 (by omega) (by omega)) rfl rfl (Nat.le_of_ble_eq_true rfl) ⟨Nat.zero_le _, Nat.zero_le _⟩ rfl ?_
  refine A_iinc2 hC d_Ro_addRow_36 (by omega) ?_
  refine A_goto (tgt := 22) hC d_Ro_addRow_39 (by decide) ?_
  refine A_ild2 hC d_Ro_addRow_22 ?_
  refine A_iconst hC d_Ro_addRow_23 (by decide) ?_
  refine A_icmpge (tgt := 42) hC d_Ro_addRow_24 (by decide) (fun h24 => ?_) (fun h24 => ?_)
  · exact absurd h24 (by decide)
  refine A_ald0 hC d_Ro_addRow_27 ?_
  refine A_ald0 hC d_Ro_addRow_28 ?_
  refine A_getIE (x := (M 6 4) + 1) (kI := 4) hC d_Ro_addRow_29 fF_Ro_24 ⟨by decide, rfl⟩ rfl ly_6 (by omega) (by rw [up_nc (c := 9) (c' := 6) (by decide), up_nc (c := 8) (c' := 6) (by decide), up_eq]) ?_
  refine A_ild2 hC d_Ro_addRow_32 ?_
  refine A_VF0 (as := [.inl ((M 6 4) + 1), .inl (0 + 1)]) hC d_Ro_addRow_33 mv_Ro_emptyField lk_Ro_32 (by decide) sel_Ro_emptyField hq_Ro ly_6 (by omega) (k_Ro_emptyField l n (up (up (up (up M 7 (M 6 4) t) 6 4 ((M 6 4) + 1)) 8 ((((M 6 4) + 1) - 1) * 4 + 0) (-1)) 9 ((((M 6 4) + 1) - 1) * 4 + 0) 0) hn ((M 6 4) + 1) (0 + 1) (by omega) (by omega)) rfl rfl (Nat.le_of_ble_eq_true rfl) ⟨Nat.zero_le _, Nat.zero_le _⟩ rfl ?_
  refine A_iinc2 hC d_Ro_addRow_36 (by omega) ?_
  refine A_goto (tgt := 22) hC d_Ro_addRow_39 (by decide) ?_
  refine A_ild2 hC d_Ro_addRow_22 ?_
  refine A_iconst hC d_Ro_addRow_23 (by decide) ?_
  refine A_icmpge (tgt := 42) hC d_Ro_addRow_24 (by decide) (fun h24 => ?_) (fun h24 => ?_)
  · exact absurd h24 (by decide)
  refine A_ald0 hC d_Ro_addRow_27 ?_
  refine A_ald0 hC d_Ro_addRow_28 ?_
  refine A_getIE (x := (M 6 4) + 1) (kI := 4) hC d_Ro_addRow_29 fF_Ro_24 ⟨by decide, rfl⟩ rfl ly_6 (by omega) (by rw [up_nc (c := 9) (c' := 6) (by decide), up_nc (c := 8) (c' := 6) (by decide), up_nc (c := 9) (c' := 6) (by decide), up_nc (c := 8) (c' := 6) (by decide), up_eq]) ?_
  refine A_ild2 hC d_Ro_addRow_32 ?_
  refine A_VF0 (as := [.inl ((M 6 4) + 1), .inl (0 + 1 + 1)]) hC d_Ro_addRow_33 mv_Ro_emptyField lk_Ro_32 (by decide) sel_Ro_emptyField hq_Ro ly_6 (by omega) (k_Ro_emptyField l n (up (up (up (up (up (up M 7 (M 6 4) t) 6 4 ((M 6 4) + 1)) 8 ((((M 6 4) + 1) - 1) * 4 + 0) (-1)) 9 ((((M 6 4) + 1) - 1) * 4 + 0) 0) 8 ((((M 6 4) + 1) - 1) * 4 + (0 + 1)) (-1)) 9 ((((M 6 4) + 1) - 1) * 4 + (0 + 1)) 0) hn ((M 6 4) + 1) (0 + 1 + 1) (by omega) (by omega)) rfl rfl (Nat.le_of_ble_eq_true rfl) ⟨Nat.zero_le _, Nat.zero_le _⟩ rfl ?_
  refine A_iinc2 hC d_Ro_addRow_36 (by omega) ?_
  refine A_goto (tgt := 22) hC d_Ro_addRow_39 (by decide) ?_
  refine A_ild2 hC d_Ro_addRow_22 ?_
  refine A_iconst hC d_Ro_addRow_23 (by decide) ?_
  refine A_icmpge (tgt := 42) hC d_Ro_addRow_24 (by decide) (fun h24 => ?_) (fun h24 => ?_)
  · exact absurd h24 (by decide)
  refine A_ald0 hC d_Ro_addRow_27 ?_
  refine A_ald0 hC d_Ro_addRow_28 ?_
  refine A_getIE (x := (M 6 4) + 1) (kI := 4) hC d_Ro_addRow_29 fF_Ro_24 ⟨by decide, rfl⟩ rfl ly_6 (by omega) (by rw [up_nc (c := 9) (c' := 6) (by decide), up_nc (c := 8) (c' := 6) (by decide), up_nc (c := 9) (c' := 6) (by decide), up_nc (c := 8) (c' := 6) (by decide), up_nc (c := 9) (c' := 6) (by decide), up_nc (c := 8) (c' := 6) (by decide), up_eq]) ?_
  refine A_ild2 hC d_Ro_addRow_32 ?_
  refine A_VF0 (as := [.inl ((M 6 4) + 1), .inl (0 + 1 + 1 + 1)]) hC d_Ro_addRow_33 mv_Ro_emptyField lk_Ro_32 (by decide) sel_Ro_emptyField hq_Ro ly_6 (by omega) (k_Ro_emptyField l n (up (up (up (up (up (up (up (up M 7 (M 6 4) t) 6 4 ((M 6 4) + 1)) 8 ((((M 6 4) + 1) - 1) * 4 + 0) (-1)) 9 ((((M 6 4) + 1) - 1) * 4 + 0) 0) 8 ((((M 6 4) + 1) - 1) * 4 + (0 + 1)) (-1)) 9 ((((M 6 4) + 1) - 1) * 4 + (0 + 1)) 0) 8 ((((M 6 4) + 1) - 1) * 4 + (0 + 1 + 1)) (-1)) 9 ((((M 6 4) + 1) - 1) * 4 + (0 + 1 + 1)) 0) hn ((M 6 4) + 1) (0 + 1 + 1 + 1) (by omega) (by omega)) rfl rfl (Nat.le_of_ble_eq_true rfl) ⟨Nat.zero_le _, Nat.zero_le _⟩ rfl ?_
  refine A_iinc2 hC d_Ro_addRow_36 (by omega) ?_
  refine A_goto (tgt := 22) hC d_Ro_addRow_39 (by decide) ?_
  refine A_ild2 hC d_Ro_addRow_22 ?_
  refine A_iconst hC d_Ro_addRow_23 (by decide) ?_
  refine A_icmpge (tgt := 42) hC d_Ro_addRow_24 (by decide) (fun h24 => ?_) (fun h24 => ?_)
  rotate_left
  · exact absurd h24 (by decide)
  refine A_ald0 hC d_Ro_addRow_42 ?_
  refine A_getIE (x := (M 6 4) + 1) (kI := 4) hC d_Ro_addRow_43 fF_Ro_24 ⟨by decide, rfl⟩ rfl ly_6 (by omega) (by rw [up_nc (c := 9) (c' := 6) (by decide), up_nc (c := 8) (c' := 6) (by decide), up_nc (c := 9) (c' := 6) (by decide), up_nc (c := 8) (c' := 6) (by decide), up_nc (c := 9) (c' := 6) (by decide), up_nc (c := 8) (c' := 6) (by decide), up_nc (c := 9) (c' := 6) (by decide), up_nc (c := 8) (c' := 6) (by decide), up_eq]) ?_
  refine A_iret hC d_Ro_addRow_46 rfl (Nat.le_refl _) (Nat.le_refl _) ?_
  exact ⟨rfl, rfl, rfl⟩
set_option maxHeartbeats 4000000 in
theorem k_G_row (l : Launch) (n : Nat) (M : Mem) (hn : 117 ≤ n) (hR : RC M) (t : Int) : AF l m_G_row 4 [.inr 0, .inl t] n M (some (.inl (if ¬ (0 ≤ t ∧ t < M 1 4) then -1 else if 12 ≤ M 6 4 then -2 else M 6 4 + 1))) (if ¬ (0 ≤ t ∧ t < M 1 4) then M else if 12 ≤ M 6 4 then M else adR M t) := by
  refine AM_intro (by decide) (Nat.le_of_ble_eq_true rfl) (fun X b0 D hC _ => ?_)
  show AW X b0 D true 0 0 _ n M 0 [some (.inr 0), some (.inl t)] []
  have hR1 := hR.1
  have hR2 := hR.2
  refine A_ald0 hC d_G_row_0 ?_
  refine A_getCR (v := 1) hC d_G_row_1 fF_G_12 ⟨by decide, rfl⟩ ly_0 (by omega) ⟨rfl, by decide⟩ cv_0_0 ?_
  refine A_ild1 hC d_G_row_4 ?_
  refine A_VF1 (as := [.inl t]) hC d_G_row_5 mv_Sc_hasType lk_G_68 (by decide) sel_Sc_hasType hq_Sc ly_1 (by omega) (k_Sc_hasType l n M hn t) rfl rfl (Nat.le_of_ble_eq_true rfl) ⟨Nat.zero_le _, Nat.zero_le _⟩ rfl ?_
  refine A_ifne (tgt := 13) hC d_G_row_8 (by decide) (fun h8 => ?_) (fun h8 => ?_)
  · refine A_ald0 hC d_G_row_13 ?_
    refine A_getCR (v := 6) hC d_G_row_14 fF_G_19 ⟨by decide, rfl⟩ ly_0 (by omega) ⟨rfl, by decide⟩ cv_0_1 ?_
    refine A_getI (kI := 4) hC d_G_row_17 fF_G_61 ⟨by decide, rfl⟩ rfl ly_6 (by omega) ?_
    refine A_bipush hC d_G_row_20 (by decide) (by decide) ?_
    refine A_icmplt (tgt := 28) hC d_G_row_22 (by decide) (fun h22 => ?_) (fun h22 => ?_)
    · refine A_ald0 hC d_G_row_28 ?_
      refine A_getCR (v := 6) hC d_G_row_29 fF_G_19 ⟨by decide, rfl⟩ ly_0 (by omega) ⟨rfl, by decide⟩ cv_0_1 ?_
      refine A_ild1 hC d_G_row_32 ?_
      refine A_VF1 (as := [.inl t]) hC d_G_row_33 mv_Ro_addRow lk_G_83 (by decide) sel_Ro_addRow hq_Ro ly_6 (by omega) (k_Ro_addRow l n M hn t (by omega)) rfl rfl (Nat.le_of_ble_eq_true rfl) ⟨Nat.zero_le _, Nat.zero_le _⟩ rfl ?_
      refine A_iret hC d_G_row_36 rfl (Nat.le_refl _) (Nat.le_refl _) ?_
      exact ⟨fx_r (by repeat (first | omega | split)), rfl, by repeat (first | rfl | omega | split)⟩
    · refine A_bipush hC d_G_row_25 (by decide) (by decide) ?_
      refine A_iret hC d_G_row_27 rfl (Nat.le_refl _) (Nat.le_refl _) ?_
      exact ⟨fx_r (by repeat (first | omega | split)), rfl, by repeat (first | rfl | omega | split)⟩
  · refine A_iconst hC d_G_row_11 (by decide) ?_
    refine A_iret hC d_G_row_12 rfl (Nat.le_refl _) (Nat.le_refl _) ?_
    exact ⟨fx_r (by repeat (first | omega | split)), rfl, by repeat (first | rfl | omega | split)⟩
set_option maxHeartbeats 4000000 in
theorem k_G_put (l : Launch) (n : Nat) (M : Mem) (hn : 117 ≤ n) (hS : SC M) (hR : RC M) (r f x : Int) : AF l m_G_put 5 [.inr 0, .inl r, .inl f, .inl x] n M (some (.inl (if ¬ kIn M r f = 0 ∨ ¬ (0 ≤ x ∧ x ≤ 999) then -1 else 0))) (if ¬ kIn M r f = 0 ∨ ¬ (0 ≤ x ∧ x ≤ 999) then M else up M 8 ((r - 1) * 4 + f) x) := by
  refine AM_intro (by decide) (Nat.le_of_ble_eq_true rfl) (fun X b0 D hC _ => ?_)
  show AW X b0 D true 0 0 _ n M 0 [some (.inr 0), some (.inl r), some (.inl f), some (.inl x)] []
  have hS1 := hS.1
  have hS2 := hS.2.1
  have hR1 := hR.1
  have hR2 := hR.2
  have hS3 := hS.2.2 (M 7 (r - 1))
  refine A_ald0 hC d_G_put_0 ?_
  refine A_ild1 hC d_G_put_1 ?_
  refine A_ild2 hC d_G_put_2 ?_
  refine A_VF1 (as := [.inl r, .inl f]) hC d_G_put_3 mv_G_kindIn lk_G_87 (by decide) sel_G_kindIn hq_G ly_0 (by omega) (k_G_kindIn l n M hn hS hR r f) rfl rfl (Nat.le_of_ble_eq_true rfl) ⟨Nat.zero_le _, Nat.zero_le _⟩ rfl ?_
  refine A_ifne (tgt := 20) hC d_G_put_6 (by decide) (fun h6 => ?_) (fun h6 => ?_)
  · refine A_iconst hC d_G_put_20 (by decide) ?_
    refine A_iret hC d_G_put_21 rfl (Nat.le_refl _) (Nat.le_refl _) ?_
    exact ⟨fx_r (by repeat (first | omega | split)), rfl, by repeat (first | rfl | omega | split)⟩
  · refine A_ild3 hC d_G_put_9 ?_
    refine A_iconst hC d_G_put_10 (by decide) ?_
    refine A_sipush hC d_G_put_11 (by decide) (by decide) ?_
    refine A_SF1 (as := [.inl x, .inl 0, .inl 999]) hC d_G_put_14 mv_G_isWithin lk_G_72 (by decide) (k_G_isWithin l n M hn x 0 999) rfl rfl (Nat.le_of_ble_eq_true rfl) ⟨Nat.zero_le _, Nat.zero_le _⟩ rfl ?_
    refine A_ifne (tgt := 22) hC d_G_put_17 (by decide) (fun h17 => ?_) (fun h17 => ?_)
    · refine A_ald0 hC d_G_put_22 ?_
      refine A_getCR (v := 6) hC d_G_put_23 fF_G_19 ⟨by decide, rfl⟩ ly_0 (by omega) ⟨rfl, by decide⟩ cv_0_1 ?_
      refine A_ild1 hC d_G_put_26 ?_
      refine A_ild2 hC d_G_put_27 ?_
      refine A_ild3 hC d_G_put_28 ?_
      have hkk := kIn_in (M := M) (r := r) (f := f) (by omega)
      refine A_VF0 (as := [.inl r, .inl f, .inl x]) hC d_G_put_29 mv_Ro_holdNumber lk_G_91 (by decide) sel_Ro_holdNumber hq_Ro ly_6 (by omega) (k_Ro_holdNumber l n M hn r f x (by omega) (by omega)) rfl rfl (Nat.le_of_ble_eq_true rfl) ⟨Nat.zero_le _, Nat.zero_le _⟩ rfl ?_
      refine A_iconst hC d_G_put_32 (by decide) ?_
      refine A_iret hC d_G_put_33 rfl (Nat.le_refl _) (Nat.le_refl _) ?_
      exact ⟨fx_r (by repeat (first | omega | split)), rfl, by repeat (first | rfl | omega | split)⟩
    · refine A_iconst hC d_G_put_20 (by decide) ?_
      refine A_iret hC d_G_put_21 rfl (Nat.le_refl _) (Nat.le_refl _) ?_
      exact ⟨fx_r (by repeat (first | omega | split)), rfl, by repeat (first | rfl | omega | split)⟩
set_option maxHeartbeats 4000000 in
theorem k_G_clear (l : Launch) (n : Nat) (M : Mem) (hn : 117 ≤ n) (hS : SC M) (hR : RC M) (r f : Int) (hk : ∀ t f : Int, hasF M t f → 0 ≤ M 3 (t * 4 + f)) : AF l m_G_clear 5 [.inr 0, .inl r, .inl f] n M (some (.inl (if kIn M r f = -1 then -1 else 0))) (if kIn M r f = -1 then M else up (up M 8 ((r - 1) * 4 + f) (-1)) 9 ((r - 1) * 4 + f) 0) := by
  refine AM_intro (by decide) (Nat.le_of_ble_eq_true rfl) (fun X b0 D hC _ => ?_)
  show AW X b0 D true 0 0 _ n M 0 [some (.inr 0), some (.inl r), some (.inl f)] []
  have hS1 := hS.1
  have hS2 := hS.2.1
  have hR1 := hR.1
  have hR2 := hR.2
  have hS3 := hS.2.2 (M 7 (r - 1))
  refine A_ald0 hC d_G_clear_0 ?_
  refine A_ild1 hC d_G_clear_1 ?_
  refine A_ild2 hC d_G_clear_2 ?_
  refine A_VF1 (as := [.inl r, .inl f]) hC d_G_clear_3 mv_G_kindIn lk_G_87 (by decide) sel_G_kindIn hq_G ly_0 (by omega) (k_G_kindIn l n M hn hS hR r f) rfl rfl (Nat.le_of_ble_eq_true rfl) ⟨Nat.zero_le _, Nat.zero_le _⟩ rfl ?_
  refine A_iconst hC d_G_clear_6 (by decide) ?_
  refine A_icmpne (tgt := 12) hC d_G_clear_7 (by decide) (fun h7 => ?_) (fun h7 => ?_)
  · refine A_ald0 hC d_G_clear_12 ?_
    refine A_getCR (v := 6) hC d_G_clear_13 fF_G_19 ⟨by decide, rfl⟩ ly_0 (by omega) ⟨rfl, by decide⟩ cv_0_1 ?_
    refine A_ild1 hC d_G_clear_16 ?_
    refine A_ild2 hC d_G_clear_17 ?_
    have hkk := kIn_in (M := M) (r := r) (f := f) (by omega)
    refine A_VF0 (as := [.inl r, .inl f]) hC d_G_clear_18 mv_Ro_emptyField lk_G_104 (by decide) sel_Ro_emptyField hq_Ro ly_6 (by omega) (k_Ro_emptyField l n M hn r f (by omega) (by omega)) rfl rfl (Nat.le_of_ble_eq_true rfl) ⟨Nat.zero_le _, Nat.zero_le _⟩ rfl ?_
    refine A_iconst hC d_G_clear_21 (by decide) ?_
    refine A_iret hC d_G_clear_22 rfl (Nat.le_refl _) (Nat.le_refl _) ?_
    exact ⟨fx_r (by repeat (first | omega | split)), rfl, by repeat (first | rfl | omega | split)⟩
  · refine A_iconst hC d_G_clear_10 (by decide) ?_
    refine A_iret hC d_G_clear_11 rfl (Nat.le_refl _) (Nat.le_refl _) ?_
    exact ⟨fx_r (by repeat (first | omega | split)), rfl, by repeat (first | rfl | omega | split)⟩
set_option maxHeartbeats 4000000 in
theorem k_G_set (l : Launch) (n : Nat) (M : Mem) (hn : 117 ≤ n) (i v : Int) : AF l m_G_set 2 [.inr 0, .inl i, .inl v] n M (some (.inl (if ¬ (0 ≤ i ∧ i ≤ 3) ∨ ¬ (0 ≤ v ∧ v ≤ 1) then -1 else 0))) (if ¬ (0 ≤ i ∧ i ≤ 3) ∨ ¬ (0 ≤ v ∧ v ≤ 1) then M else up M 16 i v) := by
  refine AM_intro (by decide) (Nat.le_of_ble_eq_true rfl) (fun X b0 D hC _ => ?_)
  show AW X b0 D true 0 0 _ n M 0 [some (.inr 0), some (.inl i), some (.inl v)] []
  refine A_ild1 hC d_G_set_0 ?_
  refine A_iconst hC d_G_set_1 (by decide) ?_
  refine A_iconst hC d_G_set_2 (by decide) ?_
  refine A_SF1 (as := [.inl i, .inl 0, .inl 3]) hC d_G_set_3 mv_G_isWithin lk_G_72 (by decide) (k_G_isWithin l n M hn i 0 3) rfl rfl (Nat.le_of_ble_eq_true rfl) ⟨Nat.zero_le _, Nat.zero_le _⟩ rfl ?_
  refine A_ifeq (tgt := 18) hC d_G_set_6 (by decide) (fun h6 => ?_) (fun h6 => ?_)
  · refine A_iconst hC d_G_set_18 (by decide) ?_
    refine A_iret hC d_G_set_19 rfl (Nat.le_refl _) (Nat.le_refl _) ?_
    exact ⟨fx_r (by repeat (first | omega | split)), rfl, by repeat (first | rfl | omega | split)⟩
  · refine A_ild2 hC d_G_set_9 ?_
    refine A_iconst hC d_G_set_10 (by decide) ?_
    refine A_iconst hC d_G_set_11 (by decide) ?_
    refine A_SF1 (as := [.inl v, .inl 0, .inl 1]) hC d_G_set_12 mv_G_isWithin lk_G_72 (by decide) (k_G_isWithin l n M hn v 0 1) rfl rfl (Nat.le_of_ble_eq_true rfl) ⟨Nat.zero_le _, Nat.zero_le _⟩ rfl ?_
    refine A_ifne (tgt := 20) hC d_G_set_15 (by decide) (fun h15 => ?_) (fun h15 => ?_)
    · refine A_ald0 hC d_G_set_20 ?_
      refine A_getCR (v := 16) hC d_G_set_21 fF_G_30 ⟨by decide, rfl⟩ ly_0 (by omega) ⟨rfl, by decide⟩ cv_0_3 ?_
      refine A_ild1 hC d_G_set_24 ?_
      refine A_ild2 hC d_G_set_25 ?_
      refine A_iast hC d_G_set_26 ly_16 (by omega) (by omega) (fun _ => kk_i _) ?_
      refine A_iconst hC d_G_set_27 (by decide) ?_
      refine A_iret hC d_G_set_28 rfl (Nat.le_refl _) (Nat.le_refl _) ?_
      exact ⟨fx_r (by repeat (first | omega | split)), rfl, by repeat (first | rfl | omega | split)⟩
    · refine A_iconst hC d_G_set_18 (by decide) ?_
      refine A_iret hC d_G_set_19 rfl (Nat.le_refl _) (Nat.le_refl _) ?_
      exact ⟨fx_r (by repeat (first | omega | split)), rfl, by repeat (first | rfl | omega | split)⟩
def TX (M : Mem) : Prop := ∀ t : Int, 0 ≤ M 12 t ∧ M 12 t ≤ 16
set_option maxHeartbeats 4000000 in
theorem k_G_token (l : Launch) (n : Nat) (M : Mem) (hn : 117 ≤ n) (hT : TX M) (t o a b : Int) : AF l m_G_token 3 [.inr 0, .inl t, .inl o, .inl a, .inl b] n M (some (.inl (if ¬ (0 ≤ t ∧ t ≤ 3) ∨ ¬ tokP o a b then -1 else if 16 ≤ M 12 t then -2 else M 12 t + 1))) (if ¬ (0 ≤ t ∧ t ≤ 3) ∨ ¬ tokP o a b then M else if 16 ≤ M 12 t then M else up (up (up (up M 13 (t * 16 + M 12 t) o) 14 (t * 16 + M 12 t) a) 15 (t * 16 + M 12 t) b) 12 t (M 12 t + 1)) := by
  refine AM_intro (by decide) (Nat.le_of_ble_eq_true rfl) (fun X b0 D hC _ => ?_)
  show AW X b0 D true 0 0 _ n M 0 [some (.inr 0), some (.inl t), some (.inl o), some (.inl a), some (.inl b)] []
  have hT1 := hT t
  refine A_ild1 hC d_G_token_0 ?_
  refine A_iconst hC d_G_token_1 (by decide) ?_
  refine A_iconst hC d_G_token_2 (by decide) ?_
  refine A_SF1 (as := [.inl t, .inl 0, .inl 3]) hC d_G_token_3 mv_G_isWithin lk_G_72 (by decide) (k_G_isWithin l n M hn t 0 3) rfl rfl (Nat.le_of_ble_eq_true rfl) ⟨Nat.zero_le _, Nat.zero_le _⟩ rfl ?_
  refine A_ifeq (tgt := 19) hC d_G_token_6 (by decide) (fun h6 => ?_) (fun h6 => ?_)
  · refine A_iconst hC d_G_token_19 (by decide) ?_
    refine A_iret hC d_G_token_20 rfl (Nat.le_refl _) (Nat.le_refl _) ?_
    exact ⟨fx_r (by repeat (first | omega | split)), rfl, by repeat (first | rfl | omega | split)⟩
  · refine A_ild2 hC d_G_token_9 ?_
    refine A_ild3 hC d_G_token_10 ?_
    refine A_ild4 hC d_G_token_11 ?_
    refine A_SF1 (as := [.inl o, .inl a, .inl b]) hC d_G_token_13 mv_G_isTokenInRange lk_G_115 (by decide) (k_G_isTokenInRange l n M hn o a b) rfl rfl (Nat.le_of_ble_eq_true rfl) ⟨Nat.zero_le _, Nat.zero_le _⟩ rfl ?_
    refine A_ifne (tgt := 21) hC d_G_token_16 (by decide) (fun h16 => ?_) (fun h16 => ?_)
    · refine A_ald0 hC d_G_token_21 ?_
      refine A_getCR (v := 11) hC d_G_token_22 fF_G_26 ⟨by decide, rfl⟩ ly_0 (by omega) ⟨rfl, by decide⟩ cv_0_2 ?_
      refine A_getCR (v := 12) hC d_G_token_25 fF_G_118 ⟨by decide, rfl⟩ ly_11 (by omega) ⟨rfl, by decide⟩ cv_11_0 ?_
      refine A_ild1 hC d_G_token_28 ?_
      refine A_iald hC d_G_token_29 ly_12 (by omega) (by omega) ?_
      refine A_bipush hC d_G_token_30 (by decide) (by decide) ?_
      refine A_icmplt (tgt := 38) hC d_G_token_32 (by decide) (fun h32 => ?_) (fun h32 => ?_)
      · refine A_ald0 hC d_G_token_38 ?_
        refine A_getCR (v := 11) hC d_G_token_39 fF_G_26 ⟨by decide, rfl⟩ ly_0 (by omega) ⟨rfl, by decide⟩ cv_0_2 ?_
        refine A_ild1 hC d_G_token_42 ?_
        refine A_ild2 hC d_G_token_43 ?_
        refine A_ild3 hC d_G_token_44 ?_
        refine A_ild4 hC d_G_token_45 ?_
        refine A_VF1 (as := [.inl t, .inl o, .inl a, .inl b]) hC d_G_token_47 mv_Te_addToken lk_G_121 (by decide) sel_Te_addToken hq_Te ly_11 (by omega) (k_Te_addToken l n M hn t o a b (by omega) (by omega)) rfl rfl (Nat.le_of_ble_eq_true rfl) ⟨Nat.zero_le _, Nat.zero_le _⟩ rfl ?_
        refine A_iret hC d_G_token_50 rfl (Nat.le_refl _) (Nat.le_refl _) ?_
        exact ⟨fx_r (by repeat (first | omega | split)), rfl, by repeat (first | rfl | omega | split)⟩
      · refine A_bipush hC d_G_token_35 (by decide) (by decide) ?_
        refine A_iret hC d_G_token_37 rfl (Nat.le_refl _) (Nat.le_refl _) ?_
        exact ⟨fx_r (by repeat (first | omega | split)), rfl, by repeat (first | rfl | omega | split)⟩
    · refine A_iconst hC d_G_token_19 (by decide) ?_
      refine A_iret hC d_G_token_20 rfl (Nat.le_refl _) (Nat.le_refl _) ?_
      exact ⟨fx_r (by repeat (first | omega | split)), rfl, by repeat (first | rfl | omega | split)⟩
set_option maxHeartbeats 4000000 in
theorem k_G_wipe (l : Launch) (n : Nat) (M : Mem) (hn : 117 ≤ n) (t : Int) : AF l m_G_wipe 2 [.inr 0, .inl t] n M (some (.inl (if ¬ (0 ≤ t ∧ t ≤ 3) then -1 else M 12 t))) (if ¬ (0 ≤ t ∧ t ≤ 3) then M else up M 12 t 0) := by
  refine AM_intro (by decide) (Nat.le_of_ble_eq_true rfl) (fun X b0 D hC _ => ?_)
  show AW X b0 D true 0 0 _ n M 0 [some (.inr 0), some (.inl t), none] []
  refine A_ild1 hC d_G_wipe_0 ?_
  refine A_iconst hC d_G_wipe_1 (by decide) ?_
  refine A_iconst hC d_G_wipe_2 (by decide) ?_
  refine A_SF1 (as := [.inl t, .inl 0, .inl 3]) hC d_G_wipe_3 mv_G_isWithin lk_G_72 (by decide) (k_G_isWithin l n M hn t 0 3) rfl rfl (Nat.le_of_ble_eq_true rfl) ⟨Nat.zero_le _, Nat.zero_le _⟩ rfl ?_
  refine A_ifne (tgt := 11) hC d_G_wipe_6 (by decide) (fun h6 => ?_) (fun h6 => ?_)
  · refine A_ald0 hC d_G_wipe_11 ?_
    refine A_getCR (v := 11) hC d_G_wipe_12 fF_G_26 ⟨by decide, rfl⟩ ly_0 (by omega) ⟨rfl, by decide⟩ cv_0_2 ?_
    refine A_getCR (v := 12) hC d_G_wipe_15 fF_G_118 ⟨by decide, rfl⟩ ly_11 (by omega) ⟨rfl, by decide⟩ cv_11_0 ?_
    refine A_ild1 hC d_G_wipe_18 ?_
    refine A_iald hC d_G_wipe_19 ly_12 (by omega) (by omega) ?_
    refine A_ist2 hC d_G_wipe_20 ?_
    refine A_ald0 hC d_G_wipe_21 ?_
    refine A_getCR (v := 11) hC d_G_wipe_22 fF_G_26 ⟨by decide, rfl⟩ ly_0 (by omega) ⟨rfl, by decide⟩ cv_0_2 ?_
    refine A_getCR (v := 12) hC d_G_wipe_25 fF_G_118 ⟨by decide, rfl⟩ ly_11 (by omega) ⟨rfl, by decide⟩ cv_11_0 ?_
    refine A_ild1 hC d_G_wipe_28 ?_
    refine A_iconst hC d_G_wipe_29 (by decide) ?_
    refine A_iast hC d_G_wipe_30 ly_12 (by omega) (by omega) (fun _ => kk_i _) ?_
    refine A_ild2 hC d_G_wipe_31 ?_
    refine A_iret hC d_G_wipe_32 rfl (Nat.le_refl _) (Nat.le_refl _) ?_
    exact ⟨fx_r (by repeat (first | omega | split)), rfl, by repeat (first | rfl | omega | split)⟩
  · refine A_iconst hC d_G_wipe_9 (by decide) ?_
    refine A_iret hC d_G_wipe_10 rfl (Nat.le_refl _) (Nat.le_refl _) ?_
    exact ⟨fx_r (by repeat (first | omega | split)), rfl, by repeat (first | rfl | omega | split)⟩
set_option maxHeartbeats 4000000 in
theorem k_G_place (l : Launch) (n : Nat) (M : Mem) (hn : 117 ≤ n) : AF l m_G_place 1 [.inr 0] n M (some (.inl (M 17 5))) M := by
  refine AM_intro (by decide) (Nat.le_of_ble_eq_true rfl) (fun X b0 D hC _ => ?_)
  show AW X b0 D true 0 0 _ n M 0 [some (.inr 0)] []
  refine A_ald0 hC d_G_place_0 ?_
  refine A_getCR (v := 17) hC d_G_place_1 fF_G_39 ⟨by decide, rfl⟩ ly_0 (by omega) ⟨rfl, by decide⟩ cv_0_4 ?_
  refine A_getI (kI := 5) hC d_G_place_4 fF_G_128 ⟨by decide, rfl⟩ rfl ly_17 (by omega) ?_
  refine A_iconst hC d_G_place_7 (by decide) ?_
  refine A_icmpne (tgt := 15) hC d_G_place_8 (by decide) (fun h8 => ?_) (fun h8 => ?_)
  · refine A_ald0 hC d_G_place_15 ?_
    refine A_getCR (v := 17) hC d_G_place_16 fF_G_39 ⟨by decide, rfl⟩ ly_0 (by omega) ⟨rfl, by decide⟩ cv_0_4 ?_
    refine A_getI (kI := 5) hC d_G_place_19 fF_G_128 ⟨by decide, rfl⟩ rfl ly_17 (by omega) ?_
    refine A_iret hC d_G_place_22 rfl (Nat.le_refl _) (Nat.le_refl _) ?_
    exact ⟨fx_r (by repeat (first | omega | split)), rfl, by repeat (first | rfl | omega | split)⟩
  · refine A_iconst hC d_G_place_11 (by decide) ?_
    refine A_goto (tgt := 22) hC d_G_place_12 (by decide) ?_
    refine A_iret hC d_G_place_22 rfl (Nat.le_refl _) (Nat.le_refl _) ?_
    exact ⟨fx_r (by repeat (first | omega | split)), rfl, by repeat (first | rfl | omega | split)⟩
set_option maxHeartbeats 4000000 in
theorem k_G_code (l : Launch) (n : Nat) (M : Mem) (hn : 117 ≤ n) (hc : 0 ≤ M 81 4 ∧ M 81 4 ≤ 120) (i : Int) : AF l m_G_code 2 [.inr 0, .inl i] n M (some (.inl (if 0 ≤ i ∧ i ≤ M 81 4 - 1 then M 87 i else -1))) M := by
  refine AM_intro (by decide) (Nat.le_of_ble_eq_true rfl) (fun X b0 D hC _ => ?_)
  show AW X b0 D true 0 0 _ n M 0 [some (.inr 0), some (.inl i)] []
  refine A_ild1 hC d_G_code_0 ?_
  refine A_iconst hC d_G_code_1 (by decide) ?_
  refine A_ald0 hC d_G_code_2 ?_
  refine A_getCR (v := 81) hC d_G_code_3 fF_G_53 ⟨by decide, rfl⟩ ly_0 (by omega) ⟨rfl, by decide⟩ cv_0_5 ?_
  refine A_getI (kI := 4) hC d_G_code_6 fF_G_142 ⟨by decide, rfl⟩ rfl ly_81 (by omega) ?_
  refine A_iconst hC d_G_code_9 (by decide) ?_
  refine A_isub hC d_G_code_10 (by omega) ?_
  refine A_SF1 (as := [.inl i, .inl 0, .inl ((M 81 4) - 1)]) hC d_G_code_11 mv_G_isWithin lk_G_72 (by decide) (k_G_isWithin l n M hn i 0 ((M 81 4) - 1)) rfl rfl (Nat.le_of_ble_eq_true rfl) ⟨Nat.zero_le _, Nat.zero_le _⟩ rfl ?_
  refine A_ifeq (tgt := 29) hC d_G_code_14 (by decide) (fun h14 => ?_) (fun h14 => ?_)
  · refine A_iconst hC d_G_code_29 (by decide) ?_
    refine A_iret hC d_G_code_30 rfl (Nat.le_refl _) (Nat.le_refl _) ?_
    exact ⟨fx_r (by repeat (first | omega | split)), rfl, by repeat (first | rfl | omega | split)⟩
  · refine A_ald0 hC d_G_code_17 ?_
    refine A_getCR (v := 81) hC d_G_code_18 fF_G_53 ⟨by decide, rfl⟩ ly_0 (by omega) ⟨rfl, by decide⟩ cv_0_5 ?_
    refine A_getCR (v := 87) hC d_G_code_21 fF_G_145 ⟨by decide, rfl⟩ ly_81 (by omega) ⟨rfl, by decide⟩ cv_81_3 ?_
    refine A_ild1 hC d_G_code_24 ?_
    refine A_iald hC d_G_code_25 ly_87 (by omega) (by omega) ?_
    refine A_goto (tgt := 30) hC d_G_code_26 (by decide) ?_
    refine A_iret hC d_G_code_30 rfl (Nat.le_refl _) (Nat.le_refl _) ?_
    exact ⟨fx_r (by repeat (first | omega | split)), rfl, by repeat (first | rfl | omega | split)⟩
def PC (M : Mem) : Prop := 0 ≤ M 83 4 ∧ M 83 4 ≤ 60 ∧ ∀ k : Int, 0 ≤ k → k < M 83 4 → 0 ≤ M 85 k ∧ M 85 k ≤ 26
set_option maxHeartbeats 4000000 in
theorem k_Pa_partOf (l : Launch) (n : Nat) (M : Mem) (hn : 117 ≤ n) (hP : PC M) (k i : Int) : AF l m_Pa_partOf 2 [.inr 83, .inl k, .inl i] n M (some (.inl (if (0 ≤ k ∧ k ≤ M 83 4 - 1) ∧ 0 ≤ i ∧ i ≤ M 85 k - 1 then M 86 (k * 26 + i) else -1))) M := by
  refine AM_intro (by decide) (Nat.le_of_ble_eq_true rfl) (fun X b0 D hC _ => ?_)
  show AW X b0 D true 0 0 _ n M 0 [some (.inr 83), some (.inl k), some (.inl i)] []
  have hP1 := hP.1
  have hP2 := hP.2.1
  have hP3 := hP.2.2 k
  refine A_ild1 hC d_Pa_partOf_0 ?_
  refine A_iconst hC d_Pa_partOf_1 (by decide) ?_
  refine A_ald0 hC d_Pa_partOf_2 ?_
  refine A_getI (kI := 4) hC d_Pa_partOf_3 fF_Pa_25 ⟨by decide, rfl⟩ rfl ly_83 (by omega) ?_
  refine A_iconst hC d_Pa_partOf_6 (by decide) ?_
  refine A_isub hC d_Pa_partOf_7 (by omega) ?_
  refine A_SNF1 (as := [.inl k, .inl 0, .inl ((M 83 4) - 1)]) hC d_Pa_partOf_8 mv_G_isWithin lk_Pa_40 (by decide) (k_G_isWithin l n M hn k 0 ((M 83 4) - 1)) rfl rfl (Nat.le_of_ble_eq_true rfl) ⟨Nat.zero_le _, Nat.zero_le _⟩ rfl ?_
  refine A_ifeq (tgt := 30) hC d_Pa_partOf_11 (by decide) (fun h11 => ?_) (fun h11 => ?_)
  · refine A_iconst hC d_Pa_partOf_30 (by decide) ?_
    refine A_iret hC d_Pa_partOf_31 rfl (Nat.le_refl _) (Nat.le_refl _) ?_
    exact ⟨fx_r (by repeat (first | omega | split)), rfl, by repeat (first | rfl | omega | split)⟩
  · refine A_ild2 hC d_Pa_partOf_14 ?_
    refine A_iconst hC d_Pa_partOf_15 (by decide) ?_
    refine A_ald0 hC d_Pa_partOf_16 ?_
    refine A_getCR (v := 85) hC d_Pa_partOf_17 fF_Pa_15 ⟨by decide, rfl⟩ ly_83 (by omega) ⟨rfl, by decide⟩ cv_83_1 ?_
    refine A_ild1 hC d_Pa_partOf_20 ?_
    refine A_iald hC d_Pa_partOf_21 ly_85 (by omega) (by omega) ?_
    refine A_iconst hC d_Pa_partOf_22 (by decide) ?_
    refine A_isub hC d_Pa_partOf_23 (by omega) ?_
    refine A_SNF1 (as := [.inl i, .inl 0, .inl ((M 85 k) - 1)]) hC d_Pa_partOf_24 mv_G_isWithin lk_Pa_40 (by decide) (k_G_isWithin l n M hn i 0 ((M 85 k) - 1)) rfl rfl (Nat.le_of_ble_eq_true rfl) ⟨Nat.zero_le _, Nat.zero_le _⟩ rfl ?_
    refine A_ifne (tgt := 32) hC d_Pa_partOf_27 (by decide) (fun h27 => ?_) (fun h27 => ?_)
    · refine A_ald0 hC d_Pa_partOf_32 ?_
      refine A_getCR (v := 86) hC d_Pa_partOf_33 fF_Pa_18 ⟨by decide, rfl⟩ ly_83 (by omega) ⟨rfl, by decide⟩ cv_83_2 ?_
      refine A_ild1 hC d_Pa_partOf_36 ?_
      refine A_bipush hC d_Pa_partOf_37 (by decide) (by decide) ?_
      refine A_imul hC d_Pa_partOf_39 (by omega) ?_
      refine A_ild2 hC d_Pa_partOf_40 ?_
      refine A_iadd hC d_Pa_partOf_41 (by omega) ?_
      refine A_iald hC d_Pa_partOf_42 ly_86 (by omega) (by omega) ?_
      refine A_iret hC d_Pa_partOf_43 rfl (Nat.le_refl _) (Nat.le_refl _) ?_
      exact ⟨fx_r (by repeat (first | omega | split)), rfl, by repeat (first | rfl | omega | split)⟩
    · refine A_iconst hC d_Pa_partOf_30 (by decide) ?_
      refine A_iret hC d_Pa_partOf_31 rfl (Nat.le_refl _) (Nat.le_refl _) ?_
      exact ⟨fx_r (by repeat (first | omega | split)), rfl, by repeat (first | rfl | omega | split)⟩
set_option maxHeartbeats 4000000 in
theorem k_G_missing (l : Launch) (n : Nat) (M : Mem) (hn : 117 ≤ n) (hP : PC M) (k i : Int) : AF l m_G_missing 3 [.inr 0, .inl k, .inl i] n M (some (.inl (if (0 ≤ k ∧ k ≤ M 83 4 - 1) ∧ 0 ≤ i ∧ i ≤ M 85 k - 1 then M 86 (k * 26 + i) else -1))) M := by
  refine AM_intro (by decide) (Nat.le_of_ble_eq_true rfl) (fun X b0 D hC _ => ?_)
  show AW X b0 D true 0 0 _ n M 0 [some (.inr 0), some (.inl k), some (.inl i)] []
  refine A_ald0 hC d_G_missing_0 ?_
  refine A_getCR (v := 81) hC d_G_missing_1 fF_G_53 ⟨by decide, rfl⟩ ly_0 (by omega) ⟨rfl, by decide⟩ cv_0_5 ?_
  refine A_getCR (v := 83) hC d_G_missing_4 fF_G_148 ⟨by decide, rfl⟩ ly_81 (by omega) ⟨rfl, by decide⟩ cv_81_2 ?_
  refine A_ild1 hC d_G_missing_7 ?_
  refine A_ild2 hC d_G_missing_8 ?_
  refine A_VF1 (as := [.inl k, .inl i]) hC d_G_missing_9 mv_Pa_partOf lk_G_152 (by decide) sel_Pa_partOf hq_Pa ly_83 (by omega) (k_Pa_partOf l n M hn hP k i) rfl rfl (Nat.le_of_ble_eq_true rfl) ⟨Nat.zero_le _, Nat.zero_le _⟩ rfl ?_
  refine A_iret hC d_G_missing_12 rfl (Nat.le_refl _) (Nat.le_refl _) ?_
  exact ⟨rfl, rfl, rfl⟩
set_option maxHeartbeats 4000000 in
theorem k_G_count (l : Launch) (n : Nat) (M : Mem) (hn : 117 ≤ n) (i : Int) : AF l m_G_count 2 [.inr 0, .inl i] n M (some (.inl (if i = 0 then M 1 4 else if i = 1 then M 6 4 else if i = 2 then M 81 4 else if i = 3 then M 83 4 else if 4 ≤ i ∧ i ≤ 7 then M 12 (i - 4) else -1))) M := by
  refine AM_intro (by decide) (Nat.le_of_ble_eq_true rfl) (fun X b0 D hC _ => ?_)
  show AW X b0 D true 0 0 _ n M 0 [some (.inr 0), some (.inl i)] []
  refine A_ild1 hC d_G_count_0 ?_
  refine A_tsw (td := 67) [32, 40, 48, 56] hC d_G_count_1 (by decide) (by decide) (by decide) ⟨fun h1 => ?_, fun h1 => ?_, fun h1 => ?_, fun h1 => ?_, trivial⟩ (fun h1 => ?_)
  · refine A_ald0 hC d_G_count_32 ?_
    refine A_getCR (v := 1) hC d_G_count_33 fF_G_12 ⟨by decide, rfl⟩ ly_0 (by omega) ⟨rfl, by decide⟩ cv_0_0 ?_
    refine A_getI (kI := 4) hC d_G_count_36 fF_G_57 ⟨by decide, rfl⟩ rfl ly_1 (by omega) ?_
    refine A_iret hC d_G_count_39 rfl (Nat.le_refl _) (Nat.le_refl _) ?_
    exact ⟨fx_r (by repeat (first | omega | split)), rfl, by repeat (first | rfl | omega | split)⟩
  · refine A_ald0 hC d_G_count_40 ?_
    refine A_getCR (v := 6) hC d_G_count_41 fF_G_19 ⟨by decide, rfl⟩ ly_0 (by omega) ⟨rfl, by decide⟩ cv_0_1 ?_
    refine A_getI (kI := 4) hC d_G_count_44 fF_G_61 ⟨by decide, rfl⟩ rfl ly_6 (by omega) ?_
    refine A_iret hC d_G_count_47 rfl (Nat.le_refl _) (Nat.le_refl _) ?_
    exact ⟨fx_r (by repeat (first | omega | split)), rfl, by repeat (first | rfl | omega | split)⟩
  · refine A_ald0 hC d_G_count_48 ?_
    refine A_getCR (v := 81) hC d_G_count_49 fF_G_53 ⟨by decide, rfl⟩ ly_0 (by omega) ⟨rfl, by decide⟩ cv_0_5 ?_
    refine A_getI (kI := 4) hC d_G_count_52 fF_G_142 ⟨by decide, rfl⟩ rfl ly_81 (by omega) ?_
    refine A_iret hC d_G_count_55 rfl (Nat.le_refl _) (Nat.le_refl _) ?_
    exact ⟨fx_r (by repeat (first | omega | split)), rfl, by repeat (first | rfl | omega | split)⟩
  · refine A_ald0 hC d_G_count_56 ?_
    refine A_getCR (v := 81) hC d_G_count_57 fF_G_53 ⟨by decide, rfl⟩ ly_0 (by omega) ⟨rfl, by decide⟩ cv_0_5 ?_
    refine A_getCR (v := 83) hC d_G_count_60 fF_G_148 ⟨by decide, rfl⟩ ly_81 (by omega) ⟨rfl, by decide⟩ cv_81_2 ?_
    refine A_getI (kI := 4) hC d_G_count_63 fF_G_157 ⟨by decide, rfl⟩ rfl ly_83 (by omega) ?_
    refine A_iret hC d_G_count_66 rfl (Nat.le_refl _) (Nat.le_refl _) ?_
    exact ⟨fx_r (by repeat (first | omega | split)), rfl, by repeat (first | rfl | omega | split)⟩
  · refine A_ild1 hC d_G_count_67 ?_
    refine A_iconst hC d_G_count_68 (by decide) ?_
    refine A_bipush hC d_G_count_69 (by decide) (by decide) ?_
    refine A_SF1 (as := [.inl i, .inl 4, .inl 7]) hC d_G_count_71 mv_G_isWithin lk_G_72 (by decide) (k_G_isWithin l n M hn i 4 7) rfl rfl (Nat.le_of_ble_eq_true rfl) ⟨Nat.zero_le _, Nat.zero_le _⟩ rfl ?_
    refine A_ifeq (tgt := 91) hC d_G_count_74 (by decide) (fun h74 => ?_) (fun h74 => ?_)
    · refine A_iconst hC d_G_count_91 (by decide) ?_
      refine A_iret hC d_G_count_92 rfl (Nat.le_refl _) (Nat.le_refl _) ?_
      exact ⟨fx_r (by repeat (first | omega | split)), rfl, by repeat (first | rfl | omega | split)⟩
    · refine A_ald0 hC d_G_count_77 ?_
      refine A_getCR (v := 11) hC d_G_count_78 fF_G_26 ⟨by decide, rfl⟩ ly_0 (by omega) ⟨rfl, by decide⟩ cv_0_2 ?_
      refine A_getCR (v := 12) hC d_G_count_81 fF_G_118 ⟨by decide, rfl⟩ ly_11 (by omega) ⟨rfl, by decide⟩ cv_11_0 ?_
      refine A_ild1 hC d_G_count_84 ?_
      refine A_iconst hC d_G_count_85 (by decide) ?_
      refine A_isub hC d_G_count_86 (by omega) ?_
      refine A_iald hC d_G_count_87 ly_12 (by omega) (by omega) ?_
      refine A_goto (tgt := 92) hC d_G_count_88 (by decide) ?_
      refine A_iret hC d_G_count_92 rfl (Nat.le_refl _) (Nat.le_refl _) ?_
      exact ⟨fx_r (by repeat (first | omega | split)), rfl, by repeat (first | rfl | omega | split)⟩
set_option maxHeartbeats 4000000 in
theorem k_Pa_noteHere (l : Launch) (n : Nat) (M : Mem) (hn : 117 ≤ n) (hP : 0 ≤ M 83 4) (hh : 0 ≤ M 83 3 ∧ M 83 3 ≤ 26) : AF l m_Pa_noteHere 1 [.inr 83] n M none (ntH M) := by
  refine AM_intro (by decide) (Nat.le_of_ble_eq_true rfl) (fun X b0 D hC _ => ?_)
  show AW X b0 D true 0 0 _ n M 0 [some (.inr 83)] []
  refine A_ald0 hC d_Pa_noteHere_0 ?_
  refine A_getI (kI := 4) hC d_Pa_noteHere_1 fF_Pa_25 ⟨by decide, rfl⟩ rfl ly_83 (by omega) ?_
  refine A_bipush hC d_Pa_noteHere_4 (by decide) (by decide) ?_
  refine A_icmpge (tgt := 55) hC d_Pa_noteHere_6 (by decide) (fun h6 => ?_) (fun h6 => ?_)
  · refine A_vret hC d_Pa_noteHere_55 rfl (Nat.le_refl _) (Nat.le_refl _) ?_
    exact ⟨rfl, rfl, by unfold ntH; first | rw [if_pos (by omega)] | rw [if_neg (by omega)]⟩
  · refine A_ald0 hC d_Pa_noteHere_9 ?_
    refine A_getCR (v := 84) hC d_Pa_noteHere_10 fF_Pa_9 ⟨by decide, rfl⟩ ly_83 (by omega) ⟨rfl, by decide⟩ cv_83_0 ?_
    refine A_iconst hC d_Pa_noteHere_13 (by decide) ?_
    refine A_ald0 hC d_Pa_noteHere_14 ?_
    refine A_getCR (v := 86) hC d_Pa_noteHere_15 fF_Pa_18 ⟨by decide, rfl⟩ ly_83 (by omega) ⟨rfl, by decide⟩ cv_83_2 ?_
    refine A_ald0 hC d_Pa_noteHere_18 ?_
    refine A_getI (kI := 4) hC d_Pa_noteHere_19 fF_Pa_25 ⟨by decide, rfl⟩ rfl ly_83 (by omega) ?_
    refine A_bipush hC d_Pa_noteHere_22 (by decide) (by decide) ?_
    refine A_imul hC d_Pa_noteHere_24 (by omega) ?_
    refine A_ald0 hC d_Pa_noteHere_25 ?_
    refine A_getI (kI := 3) hC d_Pa_noteHere_26 fF_Pa_21 ⟨by decide, rfl⟩ rfl ly_83 (by omega) ?_
    refine A_copy hC d_Pa_noteHere_29 lk_Pa_34 zn_arraycopy zs_arraycopy zi_System (by decide) (Nat.le_of_ble_eq_true rfl) rfl ly_84 ly_86 (by omega) (by omega) (by omega) (by omega) (fun _ => kk_i) ?_
    refine A_ald0 hC d_Pa_noteHere_32 ?_
    refine A_getCR (v := 85) hC d_Pa_noteHere_33 fF_Pa_15 ⟨by decide, rfl⟩ ly_83 (by omega) ⟨rfl, by decide⟩ cv_83_1 ?_
    refine A_ald0 hC d_Pa_noteHere_36 ?_
    refine A_getIE (x := M 83 4) (kI := 4) hC d_Pa_noteHere_37 fF_Pa_25 ⟨by decide, rfl⟩ rfl ly_83 (by omega) (by rw [cpy_nc (c2 := 86) (c := 83) (by decide)]) ?_
    refine A_ald0 hC d_Pa_noteHere_40 ?_
    refine A_getIE (x := M 83 3) (kI := 3) hC d_Pa_noteHere_41 fF_Pa_21 ⟨by decide, rfl⟩ rfl ly_83 (by omega) (by rw [cpy_nc (c2 := 86) (c := 83) (by decide)]) ?_
    refine A_iast hC d_Pa_noteHere_44 ly_85 (by omega) (by omega) (fun _ => kk_i _) ?_
    refine A_ald0 hC d_Pa_noteHere_45 ?_
    refine A_dup hC d_Pa_noteHere_46 ?_
    refine A_getIE (x := M 83 4) (kI := 4) hC d_Pa_noteHere_47 fF_Pa_25 ⟨by decide, rfl⟩ rfl ly_83 (by omega) (by rw [up_nc (c := 85) (c' := 83) (by decide), cpy_nc (c2 := 86) (c := 83) (by decide)]) ?_
    refine A_iconst hC d_Pa_noteHere_50 (by decide) ?_
    refine A_iadd hC d_Pa_noteHere_51 (by omega) ?_
    refine A_putI (kI := 4) hC d_Pa_noteHere_52 fP_Pa_25 ⟨by decide, rfl⟩ rfl ly_83 (by omega) (fun _ => by decide) ?_
    refine A_vret hC d_Pa_noteHere_55 rfl (Nat.le_refl _) (Nat.le_refl _) ?_
    exact ⟨rfl, rfl, by unfold ntH; first | rw [if_pos (by omega)] | rw [if_neg (by omega)]⟩
end
section
abbrev lkB (M : Mem) (r f x : Int) : Prop := (¬ kIn M r f = 1 ∧ ¬ kIn M r f = 2) ∨ ¬ (1 ≤ x ∧ x ≤ M 6 4) ∨ (¬ M 4 (M 7 (r - 1) * 4 + f) = 5 ∧ ¬ M 4 (M 7 (r - 1) * 4 + f) = M 7 (x - 1))
set_option maxHeartbeats 4000000 in
theorem k_G_link (l : Launch) (n : Nat) (M : Mem) (hn : 117 ≤ n) (hS : SC M) (hR : RC M) (r f x : Int) (hl : ∀ i : Int, 0 ≤ M 9 i ∧ M 9 i ≤ 4) : AF l m_G_link 5 [.inr 0, .inl r, .inl f, .inl x] n M (some (.inl (if lkB M r f x then -1 else if kIn M r f = 1 then 1 else if 4 ≤ M 9 ((r - 1) * 4 + f) then -2 else M 9 ((r - 1) * 4 + f) + 1))) (if lkB M r f x then M else if kIn M r f = 1 then up (up (up (up M 8 ((r - 1) * 4 + f) (-1)) 9 ((r - 1) * 4 + f) 0) 10 (((r - 1) * 4 + f) * 4 + (up (up M 8 ((r - 1) * 4 + f) (-1)) 9 ((r - 1) * 4 + f) 0) 9 ((r - 1) * 4 + f)) x) 9 ((r - 1) * 4 + f) ((up (up M 8 ((r - 1) * 4 + f) (-1)) 9 ((r - 1) * 4 + f) 0) 9 ((r - 1) * 4 + f) + 1) else if 4 ≤ M 9 ((r - 1) * 4 + f) then M else up (up M 10 (((r - 1) * 4 + f) * 4 + M 9 ((r - 1) * 4 + f)) x) 9 ((r - 1) * 4 + f) (M 9 ((r - 1) * 4 + f) + 1)) := by
  refine AM_intro (by decide) (Nat.le_of_ble_eq_true rfl) (fun X b0 D hC _ => ?_)
  show AW X b0 D true 0 0 _ n M 0 [some (.inr 0), some (.inl r), some (.inl f), some (.inl x), none, none] []
  have hS1 := hS.1
  have hS2 := hS.2.1
  have hR1 := hR.1
  have hR2 := hR.2
  have hS3 := hS.2.2 (M 7 (r - 1))
  have hl1 := hl ((r - 1) * 4 + f)
  refine A_ald0 hC d_G_link_0 ?_
  refine A_ild1 hC d_G_link_1 ?_
  refine A_ild2 hC d_G_link_2 ?_
  refine A_VF1 (as := [.inl r, .inl f]) hC d_G_link_3 mv_G_kindIn lk_G_87 (by decide) sel_G_kindIn hq_G ly_0 (by omega) (k_G_kindIn l n M hn hS hR r f) rfl rfl (Nat.le_of_ble_eq_true rfl) ⟨Nat.zero_le _, Nat.zero_le _⟩ rfl ?_
  refine A_ist4 hC d_G_link_6 ?_
  refine A_ild4 hC d_G_link_8 ?_
  refine A_iconst hC d_G_link_10 (by decide) ?_
  refine A_icmpeq (tgt := 20) hC d_G_link_11 (by decide) (fun h11 => ?_) (fun h11 => ?_)
  · refine A_ald0 hC d_G_link_20 ?_
    refine A_getCR (v := 6) hC d_G_link_21 fF_G_19 ⟨by decide, rfl⟩ ly_0 (by omega) ⟨rfl, by decide⟩ cv_0_1 ?_
    refine A_ild3 hC d_G_link_24 ?_
    refine A_VF1 (as := [.inl x]) hC d_G_link_25 mv_Ro_hasRow lk_G_95 (by decide) sel_Ro_hasRow hq_Ro ly_6 (by omega) (k_Ro_hasRow l n M hn x) rfl rfl (Nat.le_of_ble_eq_true rfl) ⟨Nat.zero_le _, Nat.zero_le _⟩ rfl ?_
    refine A_ifne (tgt := 33) hC d_G_link_28 (by decide) (fun h28 => ?_) (fun h28 => ?_)
    · have hkk := kIn_in (M := M) (r := r) (f := f) (by omega)
      refine A_ald0 hC d_G_link_33 ?_
      refine A_getCR (v := 1) hC d_G_link_34 fF_G_12 ⟨by decide, rfl⟩ ly_0 (by omega) ⟨rfl, by decide⟩ cv_0_0 ?_
      refine A_ald0 hC d_G_link_37 ?_
      refine A_getCR (v := 6) hC d_G_link_38 fF_G_19 ⟨by decide, rfl⟩ ly_0 (by omega) ⟨rfl, by decide⟩ cv_0_1 ?_
      refine A_ild1 hC d_G_link_41 ?_
      refine A_VF1 (as := [.inl r]) hC d_G_link_42 mv_Ro_typeOf lk_G_98 (by decide) sel_Ro_typeOf hq_Ro ly_6 (by omega) (k_Ro_typeOf l n M hn r (by omega)) rfl rfl (Nat.le_of_ble_eq_true rfl) ⟨Nat.zero_le _, Nat.zero_le _⟩ rfl ?_
      refine A_ild2 hC d_G_link_45 ?_
      refine A_VF1 (as := [.inl (M 7 (r - 1)), .inl f]) hC d_G_link_46 mv_Sc_targetOf lk_G_101 (by decide) sel_Sc_targetOf hq_Sc ly_1 (by omega) (k_Sc_targetOf l n M hn hS (M 7 (r - 1)) f) rfl rfl (Nat.le_of_ble_eq_true rfl) ⟨Nat.zero_le _, Nat.zero_le _⟩ rfl ?_
      refine A_ist5 hC d_G_link_49 ?_
      refine A_ild5 hC d_G_link_51 ?_
      refine A_iconst hC d_G_link_53 (by decide) ?_
      refine A_icmpeq (tgt := 72) hC d_G_link_54 (by decide) (fun h54 => ?_) (fun h54 => ?_)
      · refine A_ild4 hC d_G_link_72 ?_
        refine A_iconst hC d_G_link_74 (by decide) ?_
        refine A_icmpne (tgt := 87) hC d_G_link_75 (by decide) (fun h75 => ?_) (fun h75 => ?_)
        · refine A_ald0 hC d_G_link_87 ?_
          refine A_getCR (v := 6) hC d_G_link_88 fF_G_19 ⟨by decide, rfl⟩ ly_0 (by omega) ⟨rfl, by decide⟩ cv_0_1 ?_
          refine A_ild1 hC d_G_link_91 ?_
          refine A_ild2 hC d_G_link_92 ?_
          refine A_VF1 (as := [.inl r, .inl f]) hC d_G_link_93 mv_Ro_linkedCount lk_G_108 (by decide) sel_Ro_linkedCount hq_Ro ly_6 (by omega) (k_Ro_linkedCount l n M hn r f (by omega) (by omega)) rfl rfl (Nat.le_of_ble_eq_true rfl) ⟨Nat.zero_le _, Nat.zero_le _⟩ rfl ?_
          refine A_iconst hC d_G_link_96 (by decide) ?_
          refine A_icmplt (tgt := 103) hC d_G_link_97 (by decide) (fun h97 => ?_) (fun h97 => ?_)
          · refine A_ald0 hC d_G_link_103 ?_
            refine A_getCR (v := 6) hC d_G_link_104 fF_G_19 ⟨by decide, rfl⟩ ly_0 (by omega) ⟨rfl, by decide⟩ cv_0_1 ?_
            refine A_ild1 hC d_G_link_107 ?_
            refine A_ild2 hC d_G_link_108 ?_
            refine A_ild3 hC d_G_link_109 ?_
            refine A_VF1 (as := [.inl r, .inl f, .inl x]) hC d_G_link_110 mv_Ro_addLinked lk_G_111 (by decide) sel_Ro_addLinked hq_Ro ly_6 (by omega) (k_Ro_addLinked l n M hn r f x (by omega) (by omega) (by omega)) rfl rfl (Nat.le_of_ble_eq_true rfl) ⟨Nat.zero_le _, Nat.zero_le _⟩ rfl ?_
            refine A_iret hC d_G_link_113 rfl (Nat.le_refl _) (Nat.le_refl _) ?_
            exact ⟨fx_r (by (try rw [up_eq]); repeat (first | omega | split)), rfl, by repeat (first | rfl | omega | split)⟩
          · refine A_bipush hC d_G_link_100 (by decide) (by decide) ?_
            refine A_iret hC d_G_link_102 rfl (Nat.le_refl _) (Nat.le_refl _) ?_
            exact ⟨fx_r (by (try rw [up_eq]); repeat (first | omega | split)), rfl, by repeat (first | rfl | omega | split)⟩
        · refine A_ald0 hC d_G_link_78 ?_
          refine A_getCR (v := 6) hC d_G_link_79 fF_G_19 ⟨by decide, rfl⟩ ly_0 (by omega) ⟨rfl, by decide⟩ cv_0_1 ?_
          refine A_ild1 hC d_G_link_82 ?_
          refine A_ild2 hC d_G_link_83 ?_
          refine A_VF0 (as := [.inl r, .inl f]) hC d_G_link_84 mv_Ro_emptyField lk_G_104 (by decide) sel_Ro_emptyField hq_Ro ly_6 (by omega) (k_Ro_emptyField l n M hn r f (by omega) (by omega)) rfl rfl (Nat.le_of_ble_eq_true rfl) ⟨Nat.zero_le _, Nat.zero_le _⟩ rfl ?_
          refine A_ald0 hC d_G_link_87 ?_
          refine A_getCR (v := 6) hC d_G_link_88 fF_G_19 ⟨by decide, rfl⟩ ly_0 (by omega) ⟨rfl, by decide⟩ cv_0_1 ?_
          refine A_ild1 hC d_G_link_91 ?_
          refine A_ild2 hC d_G_link_92 ?_
          refine A_VF1 (as := [.inl r, .inl f]) hC d_G_link_93 mv_Ro_linkedCount lk_G_108 (by decide) sel_Ro_linkedCount hq_Ro ly_6 (by omega) (k_Ro_linkedCount l n (up (up M 8 ((r - 1) * 4 + f) (-1)) 9 ((r - 1) * 4 + f) 0) hn r f (by omega) (by omega)) rfl rfl (Nat.le_of_ble_eq_true rfl) ⟨Nat.zero_le _, Nat.zero_le _⟩ rfl ?_
          refine A_eqi (up_eq _ _ _ _) ?_
          refine A_iconst hC d_G_link_96 (by decide) ?_
          refine A_icmplt (tgt := 103) hC d_G_link_97 (by decide) (fun h97 => ?_) (fun h97 => ?_)
          rotate_left
          · exact absurd h97 (by decide)
          refine A_ald0 hC d_G_link_103 ?_
          refine A_getCR (v := 6) hC d_G_link_104 fF_G_19 ⟨by decide, rfl⟩ ly_0 (by omega) ⟨rfl, by decide⟩ cv_0_1 ?_
          refine A_ild1 hC d_G_link_107 ?_
          refine A_ild2 hC d_G_link_108 ?_
          refine A_ild3 hC d_G_link_109 ?_
          refine A_VF1 (as := [.inl r, .inl f, .inl x]) hC d_G_link_110 mv_Ro_addLinked lk_G_111 (by decide) sel_Ro_addLinked hq_Ro ly_6 (by omega) (k_Ro_addLinked l n (up (up M 8 ((r - 1) * 4 + f) (-1)) 9 ((r - 1) * 4 + f) 0) hn r f x (by omega) (by omega) (by rw [up_eq]; omega)) rfl rfl (Nat.le_of_ble_eq_true rfl) ⟨Nat.zero_le _, Nat.zero_le _⟩ rfl ?_
          refine A_iret hC d_G_link_113 rfl (Nat.le_refl _) (Nat.le_refl _) ?_
          exact ⟨fx_r (by (try rw [up_eq]); repeat (first | omega | split)), rfl, by repeat (first | rfl | omega | split)⟩
      · refine A_ild5 hC d_G_link_57 ?_
        refine A_ald0 hC d_G_link_59 ?_
        refine A_getCR (v := 6) hC d_G_link_60 fF_G_19 ⟨by decide, rfl⟩ ly_0 (by omega) ⟨rfl, by decide⟩ cv_0_1 ?_
        refine A_ild3 hC d_G_link_63 ?_
        refine A_VF1 (as := [.inl x]) hC d_G_link_64 mv_Ro_typeOf lk_G_98 (by decide) sel_Ro_typeOf hq_Ro ly_6 (by omega) (k_Ro_typeOf l n M hn x (by omega)) rfl rfl (Nat.le_of_ble_eq_true rfl) ⟨Nat.zero_le _, Nat.zero_le _⟩ rfl ?_
        refine A_icmpeq (tgt := 72) hC d_G_link_67 (by decide) (fun h67 => ?_) (fun h67 => ?_)
        · refine A_ild4 hC d_G_link_72 ?_
          refine A_iconst hC d_G_link_74 (by decide) ?_
          refine A_icmpne (tgt := 87) hC d_G_link_75 (by decide) (fun h75 => ?_) (fun h75 => ?_)
          · refine A_ald0 hC d_G_link_87 ?_
            refine A_getCR (v := 6) hC d_G_link_88 fF_G_19 ⟨by decide, rfl⟩ ly_0 (by omega) ⟨rfl, by decide⟩ cv_0_1 ?_
            refine A_ild1 hC d_G_link_91 ?_
            refine A_ild2 hC d_G_link_92 ?_
            refine A_VF1 (as := [.inl r, .inl f]) hC d_G_link_93 mv_Ro_linkedCount lk_G_108 (by decide) sel_Ro_linkedCount hq_Ro ly_6 (by omega) (k_Ro_linkedCount l n M hn r f (by omega) (by omega)) rfl rfl (Nat.le_of_ble_eq_true rfl) ⟨Nat.zero_le _, Nat.zero_le _⟩ rfl ?_
            refine A_iconst hC d_G_link_96 (by decide) ?_
            refine A_icmplt (tgt := 103) hC d_G_link_97 (by decide) (fun h97 => ?_) (fun h97 => ?_)
            · refine A_ald0 hC d_G_link_103 ?_
              refine A_getCR (v := 6) hC d_G_link_104 fF_G_19 ⟨by decide, rfl⟩ ly_0 (by omega) ⟨rfl, by decide⟩ cv_0_1 ?_
              refine A_ild1 hC d_G_link_107 ?_
              refine A_ild2 hC d_G_link_108 ?_
              refine A_ild3 hC d_G_link_109 ?_
              refine A_VF1 (as := [.inl r, .inl f, .inl x]) hC d_G_link_110 mv_Ro_addLinked lk_G_111 (by decide) sel_Ro_addLinked hq_Ro ly_6 (by omega) (k_Ro_addLinked l n M hn r f x (by omega) (by omega) (by omega)) rfl rfl (Nat.le_of_ble_eq_true rfl) ⟨Nat.zero_le _, Nat.zero_le _⟩ rfl ?_
              refine A_iret hC d_G_link_113 rfl (Nat.le_refl _) (Nat.le_refl _) ?_
              exact ⟨fx_r (by (try rw [up_eq]); repeat (first | omega | split)), rfl, by repeat (first | rfl | omega | split)⟩
            · refine A_bipush hC d_G_link_100 (by decide) (by decide) ?_
              refine A_iret hC d_G_link_102 rfl (Nat.le_refl _) (Nat.le_refl _) ?_
              exact ⟨fx_r (by (try rw [up_eq]); repeat (first | omega | split)), rfl, by repeat (first | rfl | omega | split)⟩
          · refine A_ald0 hC d_G_link_78 ?_
            refine A_getCR (v := 6) hC d_G_link_79 fF_G_19 ⟨by decide, rfl⟩ ly_0 (by omega) ⟨rfl, by decide⟩ cv_0_1 ?_
            refine A_ild1 hC d_G_link_82 ?_
            refine A_ild2 hC d_G_link_83 ?_
            refine A_VF0 (as := [.inl r, .inl f]) hC d_G_link_84 mv_Ro_emptyField lk_G_104 (by decide) sel_Ro_emptyField hq_Ro ly_6 (by omega) (k_Ro_emptyField l n M hn r f (by omega) (by omega)) rfl rfl (Nat.le_of_ble_eq_true rfl) ⟨Nat.zero_le _, Nat.zero_le _⟩ rfl ?_
            refine A_ald0 hC d_G_link_87 ?_
            refine A_getCR (v := 6) hC d_G_link_88 fF_G_19 ⟨by decide, rfl⟩ ly_0 (by omega) ⟨rfl, by decide⟩ cv_0_1 ?_
            refine A_ild1 hC d_G_link_91 ?_
            refine A_ild2 hC d_G_link_92 ?_
            refine A_VF1 (as := [.inl r, .inl f]) hC d_G_link_93 mv_Ro_linkedCount lk_G_108 (by decide) sel_Ro_linkedCount hq_Ro ly_6 (by omega) (k_Ro_linkedCount l n (up (up M 8 ((r - 1) * 4 + f) (-1)) 9 ((r - 1) * 4 + f) 0) hn r f (by omega) (by omega)) rfl rfl (Nat.le_of_ble_eq_true rfl) ⟨Nat.zero_le _, Nat.zero_le _⟩ rfl ?_
            refine A_eqi (up_eq _ _ _ _) ?_
            refine A_iconst hC d_G_link_96 (by decide) ?_
            refine A_icmplt (tgt := 103) hC d_G_link_97 (by decide) (fun h97 => ?_) (fun h97 => ?_)
            rotate_left
            · exact absurd h97 (by decide)
            refine A_ald0 hC d_G_link_103 ?_
            refine A_getCR (v := 6) hC d_G_link_104 fF_G_19 ⟨by decide, rfl⟩ ly_0 (by omega) ⟨rfl, by decide⟩ cv_0_1 ?_
            refine A_ild1 hC d_G_link_107 ?_
            refine A_ild2 hC d_G_link_108 ?_
            refine A_ild3 hC d_G_link_109 ?_
            refine A_VF1 (as := [.inl r, .inl f, .inl x]) hC d_G_link_110 mv_Ro_addLinked lk_G_111 (by decide) sel_Ro_addLinked hq_Ro ly_6 (by omega) (k_Ro_addLinked l n (up (up M 8 ((r - 1) * 4 + f) (-1)) 9 ((r - 1) * 4 + f) 0) hn r f x (by omega) (by omega) (by rw [up_eq]; omega)) rfl rfl (Nat.le_of_ble_eq_true rfl) ⟨Nat.zero_le _, Nat.zero_le _⟩ rfl ?_
            refine A_iret hC d_G_link_113 rfl (Nat.le_refl _) (Nat.le_refl _) ?_
            exact ⟨fx_r (by (try rw [up_eq]); repeat (first | omega | split)), rfl, by repeat (first | rfl | omega | split)⟩
        · refine A_iconst hC d_G_link_70 (by decide) ?_
          refine A_iret hC d_G_link_71 rfl (Nat.le_refl _) (Nat.le_refl _) ?_
          exact ⟨fx_r (by (try rw [up_eq]); repeat (first | omega | split)), rfl, by repeat (first | rfl | omega | split)⟩
    · refine A_iconst hC d_G_link_31 (by decide) ?_
      refine A_iret hC d_G_link_32 rfl (Nat.le_refl _) (Nat.le_refl _) ?_
      exact ⟨fx_r (by (try rw [up_eq]); repeat (first | omega | split)), rfl, by repeat (first | rfl | omega | split)⟩
  · refine A_ild4 hC d_G_link_14 ?_
    refine A_iconst hC d_G_link_16 (by decide) ?_
    refine A_icmpne (tgt := 31) hC d_G_link_17 (by decide) (fun h17 => ?_) (fun h17 => ?_)
    · refine A_iconst hC d_G_link_31 (by decide) ?_
      refine A_iret hC d_G_link_32 rfl (Nat.le_refl _) (Nat.le_refl _) ?_
      exact ⟨fx_r (by (try rw [up_eq]); repeat (first | omega | split)), rfl, by repeat (first | rfl | omega | split)⟩
    · refine A_ald0 hC d_G_link_20 ?_
      refine A_getCR (v := 6) hC d_G_link_21 fF_G_19 ⟨by decide, rfl⟩ ly_0 (by omega) ⟨rfl, by decide⟩ cv_0_1 ?_
      refine A_ild3 hC d_G_link_24 ?_
      refine A_VF1 (as := [.inl x]) hC d_G_link_25 mv_Ro_hasRow lk_G_95 (by decide) sel_Ro_hasRow hq_Ro ly_6 (by omega) (k_Ro_hasRow l n M hn x) rfl rfl (Nat.le_of_ble_eq_true rfl) ⟨Nat.zero_le _, Nat.zero_le _⟩ rfl ?_
      refine A_ifne (tgt := 33) hC d_G_link_28 (by decide) (fun h28 => ?_) (fun h28 => ?_)
      · have hkk := kIn_in (M := M) (r := r) (f := f) (by omega)
        refine A_ald0 hC d_G_link_33 ?_
        refine A_getCR (v := 1) hC d_G_link_34 fF_G_12 ⟨by decide, rfl⟩ ly_0 (by omega) ⟨rfl, by decide⟩ cv_0_0 ?_
        refine A_ald0 hC d_G_link_37 ?_
        refine A_getCR (v := 6) hC d_G_link_38 fF_G_19 ⟨by decide, rfl⟩ ly_0 (by omega) ⟨rfl, by decide⟩ cv_0_1 ?_
        refine A_ild1 hC d_G_link_41 ?_
        refine A_VF1 (as := [.inl r]) hC d_G_link_42 mv_Ro_typeOf lk_G_98 (by decide) sel_Ro_typeOf hq_Ro ly_6 (by omega) (k_Ro_typeOf l n M hn r (by omega)) rfl rfl (Nat.le_of_ble_eq_true rfl) ⟨Nat.zero_le _, Nat.zero_le _⟩ rfl ?_
        refine A_ild2 hC d_G_link_45 ?_
        refine A_VF1 (as := [.inl (M 7 (r - 1)), .inl f]) hC d_G_link_46 mv_Sc_targetOf lk_G_101 (by decide) sel_Sc_targetOf hq_Sc ly_1 (by omega) (k_Sc_targetOf l n M hn hS (M 7 (r - 1)) f) rfl rfl (Nat.le_of_ble_eq_true rfl) ⟨Nat.zero_le _, Nat.zero_le _⟩ rfl ?_
        refine A_ist5 hC d_G_link_49 ?_
        refine A_ild5 hC d_G_link_51 ?_
        refine A_iconst hC d_G_link_53 (by decide) ?_
        refine A_icmpeq (tgt := 72) hC d_G_link_54 (by decide) (fun h54 => ?_) (fun h54 => ?_)
        · refine A_ild4 hC d_G_link_72 ?_
          refine A_iconst hC d_G_link_74 (by decide) ?_
          refine A_icmpne (tgt := 87) hC d_G_link_75 (by decide) (fun h75 => ?_) (fun h75 => ?_)
          · refine A_ald0 hC d_G_link_87 ?_
            refine A_getCR (v := 6) hC d_G_link_88 fF_G_19 ⟨by decide, rfl⟩ ly_0 (by omega) ⟨rfl, by decide⟩ cv_0_1 ?_
            refine A_ild1 hC d_G_link_91 ?_
            refine A_ild2 hC d_G_link_92 ?_
            refine A_VF1 (as := [.inl r, .inl f]) hC d_G_link_93 mv_Ro_linkedCount lk_G_108 (by decide) sel_Ro_linkedCount hq_Ro ly_6 (by omega) (k_Ro_linkedCount l n M hn r f (by omega) (by omega)) rfl rfl (Nat.le_of_ble_eq_true rfl) ⟨Nat.zero_le _, Nat.zero_le _⟩ rfl ?_
            refine A_iconst hC d_G_link_96 (by decide) ?_
            refine A_icmplt (tgt := 103) hC d_G_link_97 (by decide) (fun h97 => ?_) (fun h97 => ?_)
            · refine A_ald0 hC d_G_link_103 ?_
              refine A_getCR (v := 6) hC d_G_link_104 fF_G_19 ⟨by decide, rfl⟩ ly_0 (by omega) ⟨rfl, by decide⟩ cv_0_1 ?_
              refine A_ild1 hC d_G_link_107 ?_
              refine A_ild2 hC d_G_link_108 ?_
              refine A_ild3 hC d_G_link_109 ?_
              refine A_VF1 (as := [.inl r, .inl f, .inl x]) hC d_G_link_110 mv_Ro_addLinked lk_G_111 (by decide) sel_Ro_addLinked hq_Ro ly_6 (by omega) (k_Ro_addLinked l n M hn r f x (by omega) (by omega) (by omega)) rfl rfl (Nat.le_of_ble_eq_true rfl) ⟨Nat.zero_le _, Nat.zero_le _⟩ rfl ?_
              refine A_iret hC d_G_link_113 rfl (Nat.le_refl _) (Nat.le_refl _) ?_
              exact ⟨fx_r (by (try rw [up_eq]); repeat (first | omega | split)), rfl, by repeat (first | rfl | omega | split)⟩
            · refine A_bipush hC d_G_link_100 (by decide) (by decide) ?_
              refine A_iret hC d_G_link_102 rfl (Nat.le_refl _) (Nat.le_refl _) ?_
              exact ⟨fx_r (by (try rw [up_eq]); repeat (first | omega | split)), rfl, by repeat (first | rfl | omega | split)⟩
          · refine A_ald0 hC d_G_link_78 ?_
            refine A_getCR (v := 6) hC d_G_link_79 fF_G_19 ⟨by decide, rfl⟩ ly_0 (by omega) ⟨rfl, by decide⟩ cv_0_1 ?_
            refine A_ild1 hC d_G_link_82 ?_
            refine A_ild2 hC d_G_link_83 ?_
            refine A_VF0 (as := [.inl r, .inl f]) hC d_G_link_84 mv_Ro_emptyField lk_G_104 (by decide) sel_Ro_emptyField hq_Ro ly_6 (by omega) (k_Ro_emptyField l n M hn r f (by omega) (by omega)) rfl rfl (Nat.le_of_ble_eq_true rfl) ⟨Nat.zero_le _, Nat.zero_le _⟩ rfl ?_
            refine A_ald0 hC d_G_link_87 ?_
            refine A_getCR (v := 6) hC d_G_link_88 fF_G_19 ⟨by decide, rfl⟩ ly_0 (by omega) ⟨rfl, by decide⟩ cv_0_1 ?_
            refine A_ild1 hC d_G_link_91 ?_
            refine A_ild2 hC d_G_link_92 ?_
            refine A_VF1 (as := [.inl r, .inl f]) hC d_G_link_93 mv_Ro_linkedCount lk_G_108 (by decide) sel_Ro_linkedCount hq_Ro ly_6 (by omega) (k_Ro_linkedCount l n (up (up M 8 ((r - 1) * 4 + f) (-1)) 9 ((r - 1) * 4 + f) 0) hn r f (by omega) (by omega)) rfl rfl (Nat.le_of_ble_eq_true rfl) ⟨Nat.zero_le _, Nat.zero_le _⟩ rfl ?_
            refine A_eqi (up_eq _ _ _ _) ?_
            refine A_iconst hC d_G_link_96 (by decide) ?_
            refine A_icmplt (tgt := 103) hC d_G_link_97 (by decide) (fun h97 => ?_) (fun h97 => ?_)
            rotate_left
            · exact absurd h97 (by decide)
            refine A_ald0 hC d_G_link_103 ?_
            refine A_getCR (v := 6) hC d_G_link_104 fF_G_19 ⟨by decide, rfl⟩ ly_0 (by omega) ⟨rfl, by decide⟩ cv_0_1 ?_
            refine A_ild1 hC d_G_link_107 ?_
            refine A_ild2 hC d_G_link_108 ?_
            refine A_ild3 hC d_G_link_109 ?_
            refine A_VF1 (as := [.inl r, .inl f, .inl x]) hC d_G_link_110 mv_Ro_addLinked lk_G_111 (by decide) sel_Ro_addLinked hq_Ro ly_6 (by omega) (k_Ro_addLinked l n (up (up M 8 ((r - 1) * 4 + f) (-1)) 9 ((r - 1) * 4 + f) 0) hn r f x (by omega) (by omega) (by rw [up_eq]; omega)) rfl rfl (Nat.le_of_ble_eq_true rfl) ⟨Nat.zero_le _, Nat.zero_le _⟩ rfl ?_
            refine A_iret hC d_G_link_113 rfl (Nat.le_refl _) (Nat.le_refl _) ?_
            exact ⟨fx_r (by (try rw [up_eq]); repeat (first | omega | split)), rfl, by repeat (first | rfl | omega | split)⟩
        · refine A_ild5 hC d_G_link_57 ?_
          refine A_ald0 hC d_G_link_59 ?_
          refine A_getCR (v := 6) hC d_G_link_60 fF_G_19 ⟨by decide, rfl⟩ ly_0 (by omega) ⟨rfl, by decide⟩ cv_0_1 ?_
          refine A_ild3 hC d_G_link_63 ?_
          refine A_VF1 (as := [.inl x]) hC d_G_link_64 mv_Ro_typeOf lk_G_98 (by decide) sel_Ro_typeOf hq_Ro ly_6 (by omega) (k_Ro_typeOf l n M hn x (by omega)) rfl rfl (Nat.le_of_ble_eq_true rfl) ⟨Nat.zero_le _, Nat.zero_le _⟩ rfl ?_
          refine A_icmpeq (tgt := 72) hC d_G_link_67 (by decide) (fun h67 => ?_) (fun h67 => ?_)
          · refine A_ild4 hC d_G_link_72 ?_
            refine A_iconst hC d_G_link_74 (by decide) ?_
            refine A_icmpne (tgt := 87) hC d_G_link_75 (by decide) (fun h75 => ?_) (fun h75 => ?_)
            · refine A_ald0 hC d_G_link_87 ?_
              refine A_getCR (v := 6) hC d_G_link_88 fF_G_19 ⟨by decide, rfl⟩ ly_0 (by omega) ⟨rfl, by decide⟩ cv_0_1 ?_
              refine A_ild1 hC d_G_link_91 ?_
              refine A_ild2 hC d_G_link_92 ?_
              refine A_VF1 (as := [.inl r, .inl f]) hC d_G_link_93 mv_Ro_linkedCount lk_G_108 (by decide) sel_Ro_linkedCount hq_Ro ly_6 (by omega) (k_Ro_linkedCount l n M hn r f (by omega) (by omega)) rfl rfl (Nat.le_of_ble_eq_true rfl) ⟨Nat.zero_le _, Nat.zero_le _⟩ rfl ?_
              refine A_iconst hC d_G_link_96 (by decide) ?_
              refine A_icmplt (tgt := 103) hC d_G_link_97 (by decide) (fun h97 => ?_) (fun h97 => ?_)
              · refine A_ald0 hC d_G_link_103 ?_
                refine A_getCR (v := 6) hC d_G_link_104 fF_G_19 ⟨by decide, rfl⟩ ly_0 (by omega) ⟨rfl, by decide⟩ cv_0_1 ?_
                refine A_ild1 hC d_G_link_107 ?_
                refine A_ild2 hC d_G_link_108 ?_
                refine A_ild3 hC d_G_link_109 ?_
                refine A_VF1 (as := [.inl r, .inl f, .inl x]) hC d_G_link_110 mv_Ro_addLinked lk_G_111 (by decide) sel_Ro_addLinked hq_Ro ly_6 (by omega) (k_Ro_addLinked l n M hn r f x (by omega) (by omega) (by omega)) rfl rfl (Nat.le_of_ble_eq_true rfl) ⟨Nat.zero_le _, Nat.zero_le _⟩ rfl ?_
                refine A_iret hC d_G_link_113 rfl (Nat.le_refl _) (Nat.le_refl _) ?_
                exact ⟨fx_r (by (try rw [up_eq]); repeat (first | omega | split)), rfl, by repeat (first | rfl | omega | split)⟩
              · refine A_bipush hC d_G_link_100 (by decide) (by decide) ?_
                refine A_iret hC d_G_link_102 rfl (Nat.le_refl _) (Nat.le_refl _) ?_
                exact ⟨fx_r (by (try rw [up_eq]); repeat (first | omega | split)), rfl, by repeat (first | rfl | omega | split)⟩
            · refine A_ald0 hC d_G_link_78 ?_
              refine A_getCR (v := 6) hC d_G_link_79 fF_G_19 ⟨by decide, rfl⟩ ly_0 (by omega) ⟨rfl, by decide⟩ cv_0_1 ?_
              refine A_ild1 hC d_G_link_82 ?_
              refine A_ild2 hC d_G_link_83 ?_
              refine A_VF0 (as := [.inl r, .inl f]) hC d_G_link_84 mv_Ro_emptyField lk_G_104 (by decide) sel_Ro_emptyField hq_Ro ly_6 (by omega) (k_Ro_emptyField l n M hn r f (by omega) (by omega)) rfl rfl (Nat.le_of_ble_eq_true rfl) ⟨Nat.zero_le _, Nat.zero_le _⟩ rfl ?_
              refine A_ald0 hC d_G_link_87 ?_
              refine A_getCR (v := 6) hC d_G_link_88 fF_G_19 ⟨by decide, rfl⟩ ly_0 (by omega) ⟨rfl, by decide⟩ cv_0_1 ?_
              refine A_ild1 hC d_G_link_91 ?_
              refine A_ild2 hC d_G_link_92 ?_
              refine A_VF1 (as := [.inl r, .inl f]) hC d_G_link_93 mv_Ro_linkedCount lk_G_108 (by decide) sel_Ro_linkedCount hq_Ro ly_6 (by omega) (k_Ro_linkedCount l n (up (up M 8 ((r - 1) * 4 + f) (-1)) 9 ((r - 1) * 4 + f) 0) hn r f (by omega) (by omega)) rfl rfl (Nat.le_of_ble_eq_true rfl) ⟨Nat.zero_le _, Nat.zero_le _⟩ rfl ?_
              refine A_eqi (up_eq _ _ _ _) ?_
              refine A_iconst hC d_G_link_96 (by decide) ?_
              refine A_icmplt (tgt := 103) hC d_G_link_97 (by decide) (fun h97 => ?_) (fun h97 => ?_)
              rotate_left
              · exact absurd h97 (by decide)
              refine A_ald0 hC d_G_link_103 ?_
              refine A_getCR (v := 6) hC d_G_link_104 fF_G_19 ⟨by decide, rfl⟩ ly_0 (by omega) ⟨rfl, by decide⟩ cv_0_1 ?_
              refine A_ild1 hC d_G_link_107 ?_
              refine A_ild2 hC d_G_link_108 ?_
              refine A_ild3 hC d_G_link_109 ?_
              refine A_VF1 (as := [.inl r, .inl f, .inl x]) hC d_G_link_110 mv_Ro_addLinked lk_G_111 (by decide) sel_Ro_addLinked hq_Ro ly_6 (by omega) (k_Ro_addLinked l n (up (up M 8 ((r - 1) * 4 + f) (-1)) 9 ((r - 1) * 4 + f) 0) hn r f x (by omega) (by omega) (by rw [up_eq]; omega)) rfl rfl (Nat.le_of_ble_eq_true rfl) ⟨Nat.zero_le _, Nat.zero_le _⟩ rfl ?_
              refine A_iret hC d_G_link_113 rfl (Nat.le_refl _) (Nat.le_refl _) ?_
              exact ⟨fx_r (by (try rw [up_eq]); repeat (first | omega | split)), rfl, by repeat (first | rfl | omega | split)⟩
          · refine A_iconst hC d_G_link_70 (by decide) ?_
            refine A_iret hC d_G_link_71 rfl (Nat.le_refl _) (Nat.le_refl _) ?_
            exact ⟨fx_r (by (try rw [up_eq]); repeat (first | omega | split)), rfl, by repeat (first | rfl | omega | split)⟩
      · refine A_iconst hC d_G_link_31 (by decide) ?_
        refine A_iret hC d_G_link_32 rfl (Nat.le_refl _) (Nat.le_refl _) ?_
        exact ⟨fx_r (by (try rw [up_eq]); repeat (first | omega | split)), rfl, by repeat (first | rfl | omega | split)⟩
/-- the reference: types, fields, rows within their bounds -/
def MB (M : Mem) : Prop := (0 ≤ M 88 0 ∧ M 88 0 ≤ 5) ∧ (∀ t : Int, 0 ≤ M 89 t ∧ M 89 t ≤ 4) ∧ (0 ≤ M 88 3 ∧ M 88 3 ≤ 12) ∧ (∀ r : Int, 0 ≤ M 91 r ∧ M 91 r ≤ 4) ∧ (∀ i : Int, 0 ≤ M 92 i ∧ M 92 i ≤ 4) ∧ (∀ t : Int, 0 ≤ M 95 t ∧ M 95 t ≤ 16)
set_option maxHeartbeats 4000000 in
theorem k_Mo_in (l : Launch) (n : Nat) (M : Mem) (hn : 117 ≤ n) (x lo hi : Int) : AF l m_Mo_in 1 [.inl x, .inl lo, .inl hi] n M (some (.inl (if lo ≤ x ∧ x ≤ hi then 1 else 0))) M := by
  refine AM_intro (by decide) (Nat.le_of_ble_eq_true rfl) (fun X b0 D hC _ => ?_)
  show AW X b0 D true 0 0 _ n M 0 [some (.inl x), some (.inl lo), some (.inl hi)] []
  refine A_ild0 hC d_Mo_in_0 ?_
  refine A_ild1 hC d_Mo_in_1 ?_
  refine A_icmplt (tgt := 14) hC d_Mo_in_2 (by decide) (fun h2 => ?_) (fun h2 => ?_)
  · refine A_iconst hC d_Mo_in_14 (by decide) ?_
    refine A_zret hC d_Mo_in_15 rfl (Nat.le_refl _) (Nat.le_refl _) (by first | decide | omega) ?_
    exact ⟨fx_r (by split <;> omega), rfl, rfl⟩
  · refine A_ild0 hC d_Mo_in_5 ?_
    refine A_ild2 hC d_Mo_in_6 ?_
    refine A_icmpgt (tgt := 14) hC d_Mo_in_7 (by decide) (fun h7 => ?_) (fun h7 => ?_)
    · refine A_iconst hC d_Mo_in_14 (by decide) ?_
      refine A_zret hC d_Mo_in_15 rfl (Nat.le_refl _) (Nat.le_refl _) (by first | decide | omega) ?_
      exact ⟨fx_r (by split <;> omega), rfl, rfl⟩
    · refine A_iconst hC d_Mo_in_10 (by decide) ?_
      refine A_goto (tgt := 15) hC d_Mo_in_11 (by decide) ?_
      refine A_zret hC d_Mo_in_15 rfl (Nat.le_refl _) (Nat.le_refl _) (by first | decide | omega) ?_
      exact ⟨fx_r (by split <;> omega), rfl, rfl⟩
set_option maxHeartbeats 4000000 in
theorem k_Mo_type (l : Launch) (n : Nat) (M : Mem) (hn : 117 ≤ n) (hB : MB M) : AF l m_Mo_type 1 [.inr 88] n M (some (.inl (if M 88 0 = 5 ∨ 0 < M 88 3 then -2 else M 88 0))) (if M 88 0 = 5 ∨ 0 < M 88 3 then M else up M 88 0 (M 88 0 + 1)) := by
  refine AM_intro (by decide) (Nat.le_of_ble_eq_true rfl) (fun X b0 D hC _ => ?_)
  show AW X b0 D true 0 0 _ n M 0 [some (.inr 88)] []
  have hB1 := hB.1
  have hB2 := hB.2.1
  have hB3 := hB.2.2.1
  have hB4 := hB.2.2.2.1
  have hB5 := hB.2.2.2.2.1
  have hB6 := hB.2.2.2.2.2
  refine A_ald0 hC d_Mo_type_0 ?_
  refine A_getI (kI := 0) hC d_Mo_type_1 fF_Mo_99 ⟨by decide, rfl⟩ rfl ly_88 (by omega) ?_
  refine A_iconst hC d_Mo_type_4 (by decide) ?_
  refine A_icmpeq (tgt := 15) hC d_Mo_type_5 (by decide) (fun h5 => ?_) (fun h5 => ?_)
  · refine A_bipush hC d_Mo_type_15 (by decide) (by decide) ?_
    refine A_iret hC d_Mo_type_17 rfl (Nat.le_refl _) (Nat.le_refl _) ?_
    exact ⟨fx_r (by repeat (first | omega | split)), rfl, by repeat (first | rfl | omega | split)⟩
  · refine A_ald0 hC d_Mo_type_8 ?_
    refine A_getI (kI := 3) hC d_Mo_type_9 fF_Mo_102 ⟨by decide, rfl⟩ rfl ly_88 (by omega) ?_
    refine A_ifle (tgt := 18) hC d_Mo_type_12 (by decide) (fun h12 => ?_) (fun h12 => ?_)
    · refine A_ald0 hC d_Mo_type_18 ?_
      refine A_dup hC d_Mo_type_19 ?_
      refine A_getI (kI := 0) hC d_Mo_type_20 fF_Mo_99 ⟨by decide, rfl⟩ rfl ly_88 (by omega) ?_
      refine A_iconst hC d_Mo_type_23 (by decide) ?_
      refine A_iadd hC d_Mo_type_24 (by omega) ?_
      refine A_putI (kI := 0) hC d_Mo_type_25 fP_Mo_99 ⟨by decide, rfl⟩ rfl ly_88 (by omega) (fun _ => by decide) ?_
      refine A_ald0 hC d_Mo_type_28 ?_
      refine A_getIE (x := (M 88 0) + 1) (kI := 0) hC d_Mo_type_29 fF_Mo_99 ⟨by decide, rfl⟩ rfl ly_88 (by omega) (by rw [up_eq]) ?_
      refine A_iconst hC d_Mo_type_32 (by decide) ?_
      refine A_isub hC d_Mo_type_33 (by omega) ?_
      refine A_iret hC d_Mo_type_34 rfl (Nat.le_refl _) (Nat.le_refl _) ?_
      exact ⟨fx_r (by repeat (first | omega | split)), rfl, by repeat (first | rfl | omega | split)⟩
    · refine A_bipush hC d_Mo_type_15 (by decide) (by decide) ?_
      refine A_iret hC d_Mo_type_17 rfl (Nat.le_refl _) (Nat.le_refl _) ?_
      exact ⟨fx_r (by repeat (first | omega | split)), rfl, by repeat (first | rfl | omega | split)⟩
abbrev mfB (M : Mem) (t k g : Int) : Prop := ¬ (0 ≤ t ∧ t ≤ M 88 0 - 1) ∨ ¬ (0 ≤ k ∧ k ≤ 2) ∨ ¬ (0 ≤ g ∧ g ≤ 5) ∨ (0 < k ∧ g < 5 ∧ M 88 0 ≤ g)
abbrev mfF (M : Mem) (t : Int) : Prop := 0 < M 88 3 ∨ M 89 t = 4
set_option maxHeartbeats 4000000 in
theorem k_Mo_field (l : Launch) (n : Nat) (M : Mem) (hn : 117 ≤ n) (hB : MB M) (t k g r : Int) : AF l m_Mo_field 2 [.inr 88, .inl t, .inl k, .inl g, .inl r] n M (some (.inl (if mfB M t k g then -1 else if mfF M t then -2 else M 89 t))) (if mfB M t k g then M else if mfF M t then M else up (up (up (up M 90 (12 * t + 3 * M 89 t) k) 90 (12 * t + 3 * M 89 t + 1) g) 90 (12 * t + 3 * M 89 t + 2) (if r = 0 then 0 else 1)) 89 t (M 89 t + 1)) := by
  refine AM_intro (by decide) (Nat.le_of_ble_eq_true rfl) (fun X b0 D hC _ => ?_)
  show AW X b0 D true 0 0 _ n M 0 [some (.inr 88), some (.inl t), some (.inl k), some (.inl g), some (.inl r), none] []
  have hB1 := hB.1
  have hB2 := hB.2.1
  have hB3 := hB.2.2.1
  have hB4 := hB.2.2.2.1
  have hB5 := hB.2.2.2.2.1
  have hB6 := hB.2.2.2.2.2
  have hB2t := hB2 t
  refine A_ild1 hC d_Mo_field_0 ?_
  refine A_iconst hC d_Mo_field_1 (by decide) ?_
  refine A_ald0 hC d_Mo_field_2 ?_
  refine A_getI (kI := 0) hC d_Mo_field_3 fF_Mo_99 ⟨by decide, rfl⟩ rfl ly_88 (by omega) ?_
  refine A_iconst hC d_Mo_field_6 (by decide) ?_
  refine A_isub hC d_Mo_field_7 (by omega) ?_
  refine A_SF1 (as := [.inl t, .inl 0, .inl ((M 88 0) - 1)]) hC d_Mo_field_8 mv_Mo_in lk_Mo_105 (by decide) (k_Mo_in l n M hn t 0 ((M 88 0) - 1)) rfl rfl (Nat.le_of_ble_eq_true rfl) ⟨Nat.zero_le _, Nat.zero_le _⟩ rfl ?_
  refine A_ifeq (tgt := 32) hC d_Mo_field_11 (by decide) (fun h11 => ?_) (fun h11 => ?_)
  · refine A_iconst hC d_Mo_field_32 (by decide) ?_
    refine A_iret hC d_Mo_field_33 rfl (Nat.le_refl _) (Nat.le_refl _) ?_
    exact ⟨fx_r (by repeat (first | omega | split)), rfl, by repeat (first | rfl | omega | split)⟩
  · refine A_ild2 hC d_Mo_field_14 ?_
    refine A_iconst hC d_Mo_field_15 (by decide) ?_
    refine A_iconst hC d_Mo_field_16 (by decide) ?_
    refine A_SF1 (as := [.inl k, .inl 0, .inl 2]) hC d_Mo_field_17 mv_Mo_in lk_Mo_105 (by decide) (k_Mo_in l n M hn k 0 2) rfl rfl (Nat.le_of_ble_eq_true rfl) ⟨Nat.zero_le _, Nat.zero_le _⟩ rfl ?_
    refine A_ifeq (tgt := 32) hC d_Mo_field_20 (by decide) (fun h20 => ?_) (fun h20 => ?_)
    · refine A_iconst hC d_Mo_field_32 (by decide) ?_
      refine A_iret hC d_Mo_field_33 rfl (Nat.le_refl _) (Nat.le_refl _) ?_
      exact ⟨fx_r (by repeat (first | omega | split)), rfl, by repeat (first | rfl | omega | split)⟩
    · refine A_ild3 hC d_Mo_field_23 ?_
      refine A_iconst hC d_Mo_field_24 (by decide) ?_
      refine A_iconst hC d_Mo_field_25 (by decide) ?_
      refine A_SF1 (as := [.inl g, .inl 0, .inl 5]) hC d_Mo_field_26 mv_Mo_in lk_Mo_105 (by decide) (k_Mo_in l n M hn g 0 5) rfl rfl (Nat.le_of_ble_eq_true rfl) ⟨Nat.zero_le _, Nat.zero_le _⟩ rfl ?_
      refine A_ifne (tgt := 34) hC d_Mo_field_29 (by decide) (fun h29 => ?_) (fun h29 => ?_)
      · refine A_ild2 hC d_Mo_field_34 ?_
        refine A_ifle (tgt := 53) hC d_Mo_field_35 (by decide) (fun h35 => ?_) (fun h35 => ?_)
        · refine A_ald0 hC d_Mo_field_53 ?_
          refine A_getI (kI := 3) hC d_Mo_field_54 fF_Mo_102 ⟨by decide, rfl⟩ rfl ly_88 (by omega) ?_
          refine A_ifgt (tgt := 70) hC d_Mo_field_57 (by decide) (fun h57 => ?_) (fun h57 => ?_)
          · refine A_bipush hC d_Mo_field_70 (by decide) (by decide) ?_
            refine A_iret hC d_Mo_field_72 rfl (Nat.le_refl _) (Nat.le_refl _) ?_
            exact ⟨fx_r (by repeat (first | omega | split)), rfl, by repeat (first | rfl | omega | split)⟩
          · refine A_ald0 hC d_Mo_field_60 ?_
            refine A_getCR (v := 89) hC d_Mo_field_61 fF_Mo_7 ⟨by decide, rfl⟩ ly_88 (by omega) ⟨rfl, by decide⟩ cv_88_1 ?_
            refine A_ild1 hC d_Mo_field_64 ?_
            refine A_iald hC d_Mo_field_65 ly_89 (by omega) (by omega) ?_
            refine A_iconst hC d_Mo_field_66 (by decide) ?_
            refine A_icmpne (tgt := 73) hC d_Mo_field_67 (by decide) (fun h67 => ?_) (fun h67 => ?_)
            · refine A_bipush hC d_Mo_field_73 (by decide) (by decide) ?_
              refine A_ild1 hC d_Mo_field_75 ?_
              refine A_imul hC d_Mo_field_76 (by omega) ?_
              refine A_iconst hC d_Mo_field_77 (by decide) ?_
              refine A_ald0 hC d_Mo_field_78 ?_
              refine A_getCR (v := 89) hC d_Mo_field_79 fF_Mo_7 ⟨by decide, rfl⟩ ly_88 (by omega) ⟨rfl, by decide⟩ cv_88_1 ?_
              refine A_ild1 hC d_Mo_field_82 ?_
              refine A_iald hC d_Mo_field_83 ly_89 (by omega) (by omega) ?_
              refine A_imul hC d_Mo_field_84 (by omega) ?_
              refine A_iadd hC d_Mo_field_85 (by omega) ?_
              refine A_ist5 hC d_Mo_field_86 ?_
              refine A_ald0 hC d_Mo_field_88 ?_
              refine A_getCR (v := 90) hC d_Mo_field_89 fF_Mo_13 ⟨by decide, rfl⟩ ly_88 (by omega) ⟨rfl, by decide⟩ cv_88_2 ?_
              refine A_ild5 hC d_Mo_field_92 ?_
              refine A_ild2 hC d_Mo_field_94 ?_
              refine A_iast hC d_Mo_field_95 ly_90 (by omega) (by omega) (fun _ => kk_i _) ?_
              refine A_ald0 hC d_Mo_field_96 ?_
              refine A_getCR (v := 90) hC d_Mo_field_97 fF_Mo_13 ⟨by decide, rfl⟩ ly_88 (by omega) ⟨rfl, by decide⟩ cv_88_2 ?_
              refine A_ild5 hC d_Mo_field_100 ?_
              refine A_iconst hC d_Mo_field_102 (by decide) ?_
              refine A_iadd hC d_Mo_field_103 (by omega) ?_
              refine A_ild3 hC d_Mo_field_104 ?_
              refine A_iast hC d_Mo_field_105 ly_90 (by omega) (by omega) (fun _ => kk_i _) ?_
              refine A_ald0 hC d_Mo_field_106 ?_
              refine A_getCR (v := 90) hC d_Mo_field_107 fF_Mo_13 ⟨by decide, rfl⟩ ly_88 (by omega) ⟨rfl, by decide⟩ cv_88_2 ?_
              refine A_ild5 hC d_Mo_field_110 ?_
              refine A_iconst hC d_Mo_field_112 (by decide) ?_
              refine A_iadd hC d_Mo_field_113 (by omega) ?_
              refine A_ild4 hC d_Mo_field_114 ?_
              refine A_ifeq (tgt := 123) hC d_Mo_field_116 (by decide) (fun h116 => ?_) (fun h116 => ?_)
              · refine A_iconst hC d_Mo_field_123 (by decide) ?_
                refine A_iast hC d_Mo_field_124 ly_90 (by omega) (by omega) (fun _ => kk_i _) ?_
                refine A_ald0 hC d_Mo_field_125 ?_
                refine A_getCR (v := 89) hC d_Mo_field_126 fF_Mo_7 ⟨by decide, rfl⟩ ly_88 (by omega) ⟨rfl, by decide⟩ cv_88_1 ?_
                refine A_ild1 hC d_Mo_field_129 ?_
                refine A_dup2 hC d_Mo_field_130 ?_
                refine A_ialdE (x := M 89 t) hC d_Mo_field_131 ly_89 (by omega) (by omega) (by rw [up_nc (c := 90) (c' := 89) (by decide), up_nc (c := 90) (c' := 89) (by decide), up_nc (c := 90) (c' := 89) (by decide)]) ?_
                refine A_iconst hC d_Mo_field_132 (by decide) ?_
                refine A_iadd hC d_Mo_field_133 (by omega) ?_
                refine A_iast hC d_Mo_field_134 ly_89 (by omega) (by omega) (fun _ => kk_i _) ?_
                refine A_ald0 hC d_Mo_field_135 ?_
                refine A_getCR (v := 89) hC d_Mo_field_136 fF_Mo_7 ⟨by decide, rfl⟩ ly_88 (by omega) ⟨rfl, by decide⟩ cv_88_1 ?_
                refine A_ild1 hC d_Mo_field_139 ?_
                refine A_ialdE (x := (M 89 t) + 1) hC d_Mo_field_140 ly_89 (by omega) (by omega) (by rw [up_eq]) ?_
                refine A_iconst hC d_Mo_field_141 (by decide) ?_
                refine A_isub hC d_Mo_field_142 (by omega) ?_
                refine A_iret hC d_Mo_field_143 rfl (Nat.le_refl _) (Nat.le_refl _) ?_
                exact ⟨fx_r (by repeat (first | omega | split)), rfl, by repeat (first | rfl | omega | split)⟩
              · refine A_iconst hC d_Mo_field_119 (by decide) ?_
                refine A_goto (tgt := 124) hC d_Mo_field_120 (by decide) ?_
                refine A_iast hC d_Mo_field_124 ly_90 (by omega) (by omega) (fun _ => kk_i _) ?_
                refine A_ald0 hC d_Mo_field_125 ?_
                refine A_getCR (v := 89) hC d_Mo_field_126 fF_Mo_7 ⟨by decide, rfl⟩ ly_88 (by omega) ⟨rfl, by decide⟩ cv_88_1 ?_
                refine A_ild1 hC d_Mo_field_129 ?_
                refine A_dup2 hC d_Mo_field_130 ?_
                refine A_ialdE (x := M 89 t) hC d_Mo_field_131 ly_89 (by omega) (by omega) (by rw [up_nc (c := 90) (c' := 89) (by decide), up_nc (c := 90) (c' := 89) (by decide), up_nc (c := 90) (c' := 89) (by decide)]) ?_
                refine A_iconst hC d_Mo_field_132 (by decide) ?_
                refine A_iadd hC d_Mo_field_133 (by omega) ?_
                refine A_iast hC d_Mo_field_134 ly_89 (by omega) (by omega) (fun _ => kk_i _) ?_
                refine A_ald0 hC d_Mo_field_135 ?_
                refine A_getCR (v := 89) hC d_Mo_field_136 fF_Mo_7 ⟨by decide, rfl⟩ ly_88 (by omega) ⟨rfl, by decide⟩ cv_88_1 ?_
                refine A_ild1 hC d_Mo_field_139 ?_
                refine A_ialdE (x := (M 89 t) + 1) hC d_Mo_field_140 ly_89 (by omega) (by omega) (by rw [up_eq]) ?_
                refine A_iconst hC d_Mo_field_141 (by decide) ?_
                refine A_isub hC d_Mo_field_142 (by omega) ?_
                refine A_iret hC d_Mo_field_143 rfl (Nat.le_refl _) (Nat.le_refl _) ?_
                exact ⟨fx_r (by repeat (first | omega | split)), rfl, by repeat (first | rfl | omega | split)⟩
            · refine A_bipush hC d_Mo_field_70 (by decide) (by decide) ?_
              refine A_iret hC d_Mo_field_72 rfl (Nat.le_refl _) (Nat.le_refl _) ?_
              exact ⟨fx_r (by repeat (first | omega | split)), rfl, by repeat (first | rfl | omega | split)⟩
        · refine A_ild3 hC d_Mo_field_38 ?_
          refine A_iconst hC d_Mo_field_39 (by decide) ?_
          refine A_icmpge (tgt := 53) hC d_Mo_field_40 (by decide) (fun h40 => ?_) (fun h40 => ?_)
          · refine A_ald0 hC d_Mo_field_53 ?_
            refine A_getI (kI := 3) hC d_Mo_field_54 fF_Mo_102 ⟨by decide, rfl⟩ rfl ly_88 (by omega) ?_
            refine A_ifgt (tgt := 70) hC d_Mo_field_57 (by decide) (fun h57 => ?_) (fun h57 => ?_)
            · refine A_bipush hC d_Mo_field_70 (by decide) (by decide) ?_
              refine A_iret hC d_Mo_field_72 rfl (Nat.le_refl _) (Nat.le_refl _) ?_
              exact ⟨fx_r (by repeat (first | omega | split)), rfl, by repeat (first | rfl | omega | split)⟩
            · refine A_ald0 hC d_Mo_field_60 ?_
              refine A_getCR (v := 89) hC d_Mo_field_61 fF_Mo_7 ⟨by decide, rfl⟩ ly_88 (by omega) ⟨rfl, by decide⟩ cv_88_1 ?_
              refine A_ild1 hC d_Mo_field_64 ?_
              refine A_iald hC d_Mo_field_65 ly_89 (by omega) (by omega) ?_
              refine A_iconst hC d_Mo_field_66 (by decide) ?_
              refine A_icmpne (tgt := 73) hC d_Mo_field_67 (by decide) (fun h67 => ?_) (fun h67 => ?_)
              · refine A_bipush hC d_Mo_field_73 (by decide) (by decide) ?_
                refine A_ild1 hC d_Mo_field_75 ?_
                refine A_imul hC d_Mo_field_76 (by omega) ?_
                refine A_iconst hC d_Mo_field_77 (by decide) ?_
                refine A_ald0 hC d_Mo_field_78 ?_
                refine A_getCR (v := 89) hC d_Mo_field_79 fF_Mo_7 ⟨by decide, rfl⟩ ly_88 (by omega) ⟨rfl, by decide⟩ cv_88_1 ?_
                refine A_ild1 hC d_Mo_field_82 ?_
                refine A_iald hC d_Mo_field_83 ly_89 (by omega) (by omega) ?_
                refine A_imul hC d_Mo_field_84 (by omega) ?_
                refine A_iadd hC d_Mo_field_85 (by omega) ?_
                refine A_ist5 hC d_Mo_field_86 ?_
                refine A_ald0 hC d_Mo_field_88 ?_
                refine A_getCR (v := 90) hC d_Mo_field_89 fF_Mo_13 ⟨by decide, rfl⟩ ly_88 (by omega) ⟨rfl, by decide⟩ cv_88_2 ?_
                refine A_ild5 hC d_Mo_field_92 ?_
                refine A_ild2 hC d_Mo_field_94 ?_
                refine A_iast hC d_Mo_field_95 ly_90 (by omega) (by omega) (fun _ => kk_i _) ?_
                refine A_ald0 hC d_Mo_field_96 ?_
                refine A_getCR (v := 90) hC d_Mo_field_97 fF_Mo_13 ⟨by decide, rfl⟩ ly_88 (by omega) ⟨rfl, by decide⟩ cv_88_2 ?_
                refine A_ild5 hC d_Mo_field_100 ?_
                refine A_iconst hC d_Mo_field_102 (by decide) ?_
                refine A_iadd hC d_Mo_field_103 (by omega) ?_
                refine A_ild3 hC d_Mo_field_104 ?_
                refine A_iast hC d_Mo_field_105 ly_90 (by omega) (by omega) (fun _ => kk_i _) ?_
                refine A_ald0 hC d_Mo_field_106 ?_
                refine A_getCR (v := 90) hC d_Mo_field_107 fF_Mo_13 ⟨by decide, rfl⟩ ly_88 (by omega) ⟨rfl, by decide⟩ cv_88_2 ?_
                refine A_ild5 hC d_Mo_field_110 ?_
                refine A_iconst hC d_Mo_field_112 (by decide) ?_
                refine A_iadd hC d_Mo_field_113 (by omega) ?_
                refine A_ild4 hC d_Mo_field_114 ?_
                refine A_ifeq (tgt := 123) hC d_Mo_field_116 (by decide) (fun h116 => ?_) (fun h116 => ?_)
                · refine A_iconst hC d_Mo_field_123 (by decide) ?_
                  refine A_iast hC d_Mo_field_124 ly_90 (by omega) (by omega) (fun _ => kk_i _) ?_
                  refine A_ald0 hC d_Mo_field_125 ?_
                  refine A_getCR (v := 89) hC d_Mo_field_126 fF_Mo_7 ⟨by decide, rfl⟩ ly_88 (by omega) ⟨rfl, by decide⟩ cv_88_1 ?_
                  refine A_ild1 hC d_Mo_field_129 ?_
                  refine A_dup2 hC d_Mo_field_130 ?_
                  refine A_ialdE (x := M 89 t) hC d_Mo_field_131 ly_89 (by omega) (by omega) (by rw [up_nc (c := 90) (c' := 89) (by decide), up_nc (c := 90) (c' := 89) (by decide), up_nc (c := 90) (c' := 89) (by decide)]) ?_
                  refine A_iconst hC d_Mo_field_132 (by decide) ?_
                  refine A_iadd hC d_Mo_field_133 (by omega) ?_
                  refine A_iast hC d_Mo_field_134 ly_89 (by omega) (by omega) (fun _ => kk_i _) ?_
                  refine A_ald0 hC d_Mo_field_135 ?_
                  refine A_getCR (v := 89) hC d_Mo_field_136 fF_Mo_7 ⟨by decide, rfl⟩ ly_88 (by omega) ⟨rfl, by decide⟩ cv_88_1 ?_
                  refine A_ild1 hC d_Mo_field_139 ?_
                  refine A_ialdE (x := (M 89 t) + 1) hC d_Mo_field_140 ly_89 (by omega) (by omega) (by rw [up_eq]) ?_
                  refine A_iconst hC d_Mo_field_141 (by decide) ?_
                  refine A_isub hC d_Mo_field_142 (by omega) ?_
                  refine A_iret hC d_Mo_field_143 rfl (Nat.le_refl _) (Nat.le_refl _) ?_
                  exact ⟨fx_r (by repeat (first | omega | split)), rfl, by repeat (first | rfl | omega | split)⟩
                · refine A_iconst hC d_Mo_field_119 (by decide) ?_
                  refine A_goto (tgt := 124) hC d_Mo_field_120 (by decide) ?_
                  refine A_iast hC d_Mo_field_124 ly_90 (by omega) (by omega) (fun _ => kk_i _) ?_
                  refine A_ald0 hC d_Mo_field_125 ?_
                  refine A_getCR (v := 89) hC d_Mo_field_126 fF_Mo_7 ⟨by decide, rfl⟩ ly_88 (by omega) ⟨rfl, by decide⟩ cv_88_1 ?_
                  refine A_ild1 hC d_Mo_field_129 ?_
                  refine A_dup2 hC d_Mo_field_130 ?_
                  refine A_ialdE (x := M 89 t) hC d_Mo_field_131 ly_89 (by omega) (by omega) (by rw [up_nc (c := 90) (c' := 89) (by decide), up_nc (c := 90) (c' := 89) (by decide), up_nc (c := 90) (c' := 89) (by decide)]) ?_
                  refine A_iconst hC d_Mo_field_132 (by decide) ?_
                  refine A_iadd hC d_Mo_field_133 (by omega) ?_
                  refine A_iast hC d_Mo_field_134 ly_89 (by omega) (by omega) (fun _ => kk_i _) ?_
                  refine A_ald0 hC d_Mo_field_135 ?_
                  refine A_getCR (v := 89) hC d_Mo_field_136 fF_Mo_7 ⟨by decide, rfl⟩ ly_88 (by omega) ⟨rfl, by decide⟩ cv_88_1 ?_
                  refine A_ild1 hC d_Mo_field_139 ?_
                  refine A_ialdE (x := (M 89 t) + 1) hC d_Mo_field_140 ly_89 (by omega) (by omega) (by rw [up_eq]) ?_
                  refine A_iconst hC d_Mo_field_141 (by decide) ?_
                  refine A_isub hC d_Mo_field_142 (by omega) ?_
                  refine A_iret hC d_Mo_field_143 rfl (Nat.le_refl _) (Nat.le_refl _) ?_
                  exact ⟨fx_r (by repeat (first | omega | split)), rfl, by repeat (first | rfl | omega | split)⟩
              · refine A_bipush hC d_Mo_field_70 (by decide) (by decide) ?_
                refine A_iret hC d_Mo_field_72 rfl (Nat.le_refl _) (Nat.le_refl _) ?_
                exact ⟨fx_r (by repeat (first | omega | split)), rfl, by repeat (first | rfl | omega | split)⟩
          · refine A_ild3 hC d_Mo_field_43 ?_
            refine A_ald0 hC d_Mo_field_44 ?_
            refine A_getI (kI := 0) hC d_Mo_field_45 fF_Mo_99 ⟨by decide, rfl⟩ rfl ly_88 (by omega) ?_
            refine A_icmplt (tgt := 53) hC d_Mo_field_48 (by decide) (fun h48 => ?_) (fun h48 => ?_)
            · refine A_ald0 hC d_Mo_field_53 ?_
              refine A_getI (kI := 3) hC d_Mo_field_54 fF_Mo_102 ⟨by decide, rfl⟩ rfl ly_88 (by omega) ?_
              refine A_ifgt (tgt := 70) hC d_Mo_field_57 (by decide) (fun h57 => ?_) (fun h57 => ?_)
              · refine A_bipush hC d_Mo_field_70 (by decide) (by decide) ?_
                refine A_iret hC d_Mo_field_72 rfl (Nat.le_refl _) (Nat.le_refl _) ?_
                exact ⟨fx_r (by repeat (first | omega | split)), rfl, by repeat (first | rfl | omega | split)⟩
              · refine A_ald0 hC d_Mo_field_60 ?_
                refine A_getCR (v := 89) hC d_Mo_field_61 fF_Mo_7 ⟨by decide, rfl⟩ ly_88 (by omega) ⟨rfl, by decide⟩ cv_88_1 ?_
                refine A_ild1 hC d_Mo_field_64 ?_
                refine A_iald hC d_Mo_field_65 ly_89 (by omega) (by omega) ?_
                refine A_iconst hC d_Mo_field_66 (by decide) ?_
                refine A_icmpne (tgt := 73) hC d_Mo_field_67 (by decide) (fun h67 => ?_) (fun h67 => ?_)
                · refine A_bipush hC d_Mo_field_73 (by decide) (by decide) ?_
                  refine A_ild1 hC d_Mo_field_75 ?_
                  refine A_imul hC d_Mo_field_76 (by omega) ?_
                  refine A_iconst hC d_Mo_field_77 (by decide) ?_
                  refine A_ald0 hC d_Mo_field_78 ?_
                  refine A_getCR (v := 89) hC d_Mo_field_79 fF_Mo_7 ⟨by decide, rfl⟩ ly_88 (by omega) ⟨rfl, by decide⟩ cv_88_1 ?_
                  refine A_ild1 hC d_Mo_field_82 ?_
                  refine A_iald hC d_Mo_field_83 ly_89 (by omega) (by omega) ?_
                  refine A_imul hC d_Mo_field_84 (by omega) ?_
                  refine A_iadd hC d_Mo_field_85 (by omega) ?_
                  refine A_ist5 hC d_Mo_field_86 ?_
                  refine A_ald0 hC d_Mo_field_88 ?_
                  refine A_getCR (v := 90) hC d_Mo_field_89 fF_Mo_13 ⟨by decide, rfl⟩ ly_88 (by omega) ⟨rfl, by decide⟩ cv_88_2 ?_
                  refine A_ild5 hC d_Mo_field_92 ?_
                  refine A_ild2 hC d_Mo_field_94 ?_
                  refine A_iast hC d_Mo_field_95 ly_90 (by omega) (by omega) (fun _ => kk_i _) ?_
                  refine A_ald0 hC d_Mo_field_96 ?_
                  refine A_getCR (v := 90) hC d_Mo_field_97 fF_Mo_13 ⟨by decide, rfl⟩ ly_88 (by omega) ⟨rfl, by decide⟩ cv_88_2 ?_
                  refine A_ild5 hC d_Mo_field_100 ?_
                  refine A_iconst hC d_Mo_field_102 (by decide) ?_
                  refine A_iadd hC d_Mo_field_103 (by omega) ?_
                  refine A_ild3 hC d_Mo_field_104 ?_
                  refine A_iast hC d_Mo_field_105 ly_90 (by omega) (by omega) (fun _ => kk_i _) ?_
                  refine A_ald0 hC d_Mo_field_106 ?_
                  refine A_getCR (v := 90) hC d_Mo_field_107 fF_Mo_13 ⟨by decide, rfl⟩ ly_88 (by omega) ⟨rfl, by decide⟩ cv_88_2 ?_
                  refine A_ild5 hC d_Mo_field_110 ?_
                  refine A_iconst hC d_Mo_field_112 (by decide) ?_
                  refine A_iadd hC d_Mo_field_113 (by omega) ?_
                  refine A_ild4 hC d_Mo_field_114 ?_
                  refine A_ifeq (tgt := 123) hC d_Mo_field_116 (by decide) (fun h116 => ?_) (fun h116 => ?_)
                  · refine A_iconst hC d_Mo_field_123 (by decide) ?_
                    refine A_iast hC d_Mo_field_124 ly_90 (by omega) (by omega) (fun _ => kk_i _) ?_
                    refine A_ald0 hC d_Mo_field_125 ?_
                    refine A_getCR (v := 89) hC d_Mo_field_126 fF_Mo_7 ⟨by decide, rfl⟩ ly_88 (by omega) ⟨rfl, by decide⟩ cv_88_1 ?_
                    refine A_ild1 hC d_Mo_field_129 ?_
                    refine A_dup2 hC d_Mo_field_130 ?_
                    refine A_ialdE (x := M 89 t) hC d_Mo_field_131 ly_89 (by omega) (by omega) (by rw [up_nc (c := 90) (c' := 89) (by decide), up_nc (c := 90) (c' := 89) (by decide), up_nc (c := 90) (c' := 89) (by decide)]) ?_
                    refine A_iconst hC d_Mo_field_132 (by decide) ?_
                    refine A_iadd hC d_Mo_field_133 (by omega) ?_
                    refine A_iast hC d_Mo_field_134 ly_89 (by omega) (by omega) (fun _ => kk_i _) ?_
                    refine A_ald0 hC d_Mo_field_135 ?_
                    refine A_getCR (v := 89) hC d_Mo_field_136 fF_Mo_7 ⟨by decide, rfl⟩ ly_88 (by omega) ⟨rfl, by decide⟩ cv_88_1 ?_
                    refine A_ild1 hC d_Mo_field_139 ?_
                    refine A_ialdE (x := (M 89 t) + 1) hC d_Mo_field_140 ly_89 (by omega) (by omega) (by rw [up_eq]) ?_
                    refine A_iconst hC d_Mo_field_141 (by decide) ?_
                    refine A_isub hC d_Mo_field_142 (by omega) ?_
                    refine A_iret hC d_Mo_field_143 rfl (Nat.le_refl _) (Nat.le_refl _) ?_
                    exact ⟨fx_r (by repeat (first | omega | split)), rfl, by repeat (first | rfl | omega | split)⟩
                  · refine A_iconst hC d_Mo_field_119 (by decide) ?_
                    refine A_goto (tgt := 124) hC d_Mo_field_120 (by decide) ?_
                    refine A_iast hC d_Mo_field_124 ly_90 (by omega) (by omega) (fun _ => kk_i _) ?_
                    refine A_ald0 hC d_Mo_field_125 ?_
                    refine A_getCR (v := 89) hC d_Mo_field_126 fF_Mo_7 ⟨by decide, rfl⟩ ly_88 (by omega) ⟨rfl, by decide⟩ cv_88_1 ?_
                    refine A_ild1 hC d_Mo_field_129 ?_
                    refine A_dup2 hC d_Mo_field_130 ?_
                    refine A_ialdE (x := M 89 t) hC d_Mo_field_131 ly_89 (by omega) (by omega) (by rw [up_nc (c := 90) (c' := 89) (by decide), up_nc (c := 90) (c' := 89) (by decide), up_nc (c := 90) (c' := 89) (by decide)]) ?_
                    refine A_iconst hC d_Mo_field_132 (by decide) ?_
                    refine A_iadd hC d_Mo_field_133 (by omega) ?_
                    refine A_iast hC d_Mo_field_134 ly_89 (by omega) (by omega) (fun _ => kk_i _) ?_
                    refine A_ald0 hC d_Mo_field_135 ?_
                    refine A_getCR (v := 89) hC d_Mo_field_136 fF_Mo_7 ⟨by decide, rfl⟩ ly_88 (by omega) ⟨rfl, by decide⟩ cv_88_1 ?_
                    refine A_ild1 hC d_Mo_field_139 ?_
                    refine A_ialdE (x := (M 89 t) + 1) hC d_Mo_field_140 ly_89 (by omega) (by omega) (by rw [up_eq]) ?_
                    refine A_iconst hC d_Mo_field_141 (by decide) ?_
                    refine A_isub hC d_Mo_field_142 (by omega) ?_
                    refine A_iret hC d_Mo_field_143 rfl (Nat.le_refl _) (Nat.le_refl _) ?_
                    exact ⟨fx_r (by repeat (first | omega | split)), rfl, by repeat (first | rfl | omega | split)⟩
                · refine A_bipush hC d_Mo_field_70 (by decide) (by decide) ?_
                  refine A_iret hC d_Mo_field_72 rfl (Nat.le_refl _) (Nat.le_refl _) ?_
                  exact ⟨fx_r (by repeat (first | omega | split)), rfl, by repeat (first | rfl | omega | split)⟩
            · refine A_iconst hC d_Mo_field_51 (by decide) ?_
              refine A_iret hC d_Mo_field_52 rfl (Nat.le_refl _) (Nat.le_refl _) ?_
              exact ⟨fx_r (by repeat (first | omega | split)), rfl, by repeat (first | rfl | omega | split)⟩
      · refine A_iconst hC d_Mo_field_32 (by decide) ?_
        refine A_iret hC d_Mo_field_33 rfl (Nat.le_refl _) (Nat.le_refl _) ?_
        exact ⟨fx_r (by repeat (first | omega | split)), rfl, by repeat (first | rfl | omega | split)⟩
set_option maxHeartbeats 4000000 in
theorem k_Mo_row (l : Launch) (n : Nat) (M : Mem) (hn : 117 ≤ n) (hB : MB M) (t : Int) : AF l m_Mo_row 2 [.inr 88, .inl t] n M (some (.inl (if ¬ (0 ≤ t ∧ t ≤ M 88 0 - 1) then -1 else if M 88 3 = 12 then -2 else M 88 3 + 1))) (if ¬ (0 ≤ t ∧ t ≤ M 88 0 - 1) then M else if M 88 3 = 12 then M else up (up M 88 3 (M 88 3 + 1)) 91 (M 88 3 + 1) t) := by
  refine AM_intro (by decide) (Nat.le_of_ble_eq_true rfl) (fun X b0 D hC _ => ?_)
  show AW X b0 D true 0 0 _ n M 0 [some (.inr 88), some (.inl t)] []
  have hB1 := hB.1
  have hB2 := hB.2.1
  have hB3 := hB.2.2.1
  have hB4 := hB.2.2.2.1
  have hB5 := hB.2.2.2.2.1
  have hB6 := hB.2.2.2.2.2
  refine A_ild1 hC d_Mo_row_0 ?_
  refine A_iconst hC d_Mo_row_1 (by decide) ?_
  refine A_ald0 hC d_Mo_row_2 ?_
  refine A_getI (kI := 0) hC d_Mo_row_3 fF_Mo_99 ⟨by decide, rfl⟩ rfl ly_88 (by omega) ?_
  refine A_iconst hC d_Mo_row_6 (by decide) ?_
  refine A_isub hC d_Mo_row_7 (by omega) ?_
  refine A_SF1 (as := [.inl t, .inl 0, .inl ((M 88 0) - 1)]) hC d_Mo_row_8 mv_Mo_in lk_Mo_105 (by decide) (k_Mo_in l n M hn t 0 ((M 88 0) - 1)) rfl rfl (Nat.le_of_ble_eq_true rfl) ⟨Nat.zero_le _, Nat.zero_le _⟩ rfl ?_
  refine A_ifne (tgt := 16) hC d_Mo_row_11 (by decide) (fun h11 => ?_) (fun h11 => ?_)
  · refine A_ald0 hC d_Mo_row_16 ?_
    refine A_getI (kI := 3) hC d_Mo_row_17 fF_Mo_102 ⟨by decide, rfl⟩ rfl ly_88 (by omega) ?_
    refine A_bipush hC d_Mo_row_20 (by decide) (by decide) ?_
    refine A_icmpne (tgt := 28) hC d_Mo_row_22 (by decide) (fun h22 => ?_) (fun h22 => ?_)
    · refine A_ald0 hC d_Mo_row_28 ?_
      refine A_dup hC d_Mo_row_29 ?_
      refine A_getI (kI := 3) hC d_Mo_row_30 fF_Mo_102 ⟨by decide, rfl⟩ rfl ly_88 (by omega) ?_
      refine A_iconst hC d_Mo_row_33 (by decide) ?_
      refine A_iadd hC d_Mo_row_34 (by omega) ?_
      refine A_putI (kI := 3) hC d_Mo_row_35 fP_Mo_102 ⟨by decide, rfl⟩ rfl ly_88 (by omega) (fun _ => by decide) ?_
      refine A_ald0 hC d_Mo_row_38 ?_
      refine A_getCR (v := 91) hC d_Mo_row_39 fF_Mo_16 ⟨by decide, rfl⟩ ly_88 (by omega) ⟨rfl, by decide⟩ cv_88_4 ?_
      refine A_ald0 hC d_Mo_row_42 ?_
      refine A_getIE (x := (M 88 3) + 1) (kI := 3) hC d_Mo_row_43 fF_Mo_102 ⟨by decide, rfl⟩ rfl ly_88 (by omega) (by rw [up_eq]) ?_
      refine A_ild1 hC d_Mo_row_46 ?_
      refine A_iast hC d_Mo_row_47 ly_91 (by omega) (by omega) (fun _ => kk_i _) ?_
      refine A_ald0 hC d_Mo_row_48 ?_
      refine A_getIE (x := (M 88 3) + 1) (kI := 3) hC d_Mo_row_49 fF_Mo_102 ⟨by decide, rfl⟩ rfl ly_88 (by omega) (by rw [up_nc (c := 91) (c' := 88) (by decide), up_eq]) ?_
      refine A_iret hC d_Mo_row_52 rfl (Nat.le_refl _) (Nat.le_refl _) ?_
      exact ⟨fx_r (by repeat (first | omega | split)), rfl, by repeat (first | rfl | omega | split)⟩
    · refine A_bipush hC d_Mo_row_25 (by decide) (by decide) ?_
      refine A_iret hC d_Mo_row_27 rfl (Nat.le_refl _) (Nat.le_refl _) ?_
      exact ⟨fx_r (by repeat (first | omega | split)), rfl, by repeat (first | rfl | omega | split)⟩
  · refine A_iconst hC d_Mo_row_14 (by decide) ?_
    refine A_iret hC d_Mo_row_15 rfl (Nat.le_refl _) (Nat.le_refl _) ?_
    exact ⟨fx_r (by repeat (first | omega | split)), rfl, by repeat (first | rfl | omega | split)⟩
set_option maxHeartbeats 4000000 in
theorem k_Mo_of (l : Launch) (n : Nat) (M : Mem) (hn : 117 ≤ n) (hB : MB M) (r f k : Int) (hr : 0 ≤ r ∧ r ≤ 12) (hf : 0 ≤ f ∧ f ≤ 3) (hk : 0 ≤ k ∧ k ≤ 2) : AF l m_Mo_of 1 [.inr 88, .inl r, .inl f, .inl k] n M (some (.inl (M 90 (12 * M 91 r + 3 * f + k)))) M := by
  refine AM_intro (by decide) (Nat.le_of_ble_eq_true rfl) (fun X b0 D hC _ => ?_)
  show AW X b0 D true 0 0 _ n M 0 [some (.inr 88), some (.inl r), some (.inl f), some (.inl k)] []
  have hB1 := hB.1
  have hB2 := hB.2.1
  have hB3 := hB.2.2.1
  have hB4 := hB.2.2.2.1
  have hB5 := hB.2.2.2.2.1
  have hB6 := hB.2.2.2.2.2
  have hB4r := hB4 r
  refine A_ald0 hC d_Mo_of_0 ?_
  refine A_getCR (v := 90) hC d_Mo_of_1 fF_Mo_13 ⟨by decide, rfl⟩ ly_88 (by omega) ⟨rfl, by decide⟩ cv_88_2 ?_
  refine A_bipush hC d_Mo_of_4 (by decide) (by decide) ?_
  refine A_ald0 hC d_Mo_of_6 ?_
  refine A_getCR (v := 91) hC d_Mo_of_7 fF_Mo_16 ⟨by decide, rfl⟩ ly_88 (by omega) ⟨rfl, by decide⟩ cv_88_4 ?_
  refine A_ild1 hC d_Mo_of_10 ?_
  refine A_iald hC d_Mo_of_11 ly_91 (by omega) (by omega) ?_
  refine A_imul hC d_Mo_of_12 (by omega) ?_
  refine A_iconst hC d_Mo_of_13 (by decide) ?_
  refine A_ild2 hC d_Mo_of_14 ?_
  refine A_imul hC d_Mo_of_15 (by omega) ?_
  refine A_iadd hC d_Mo_of_16 (by omega) ?_
  refine A_ild3 hC d_Mo_of_17 ?_
  refine A_iadd hC d_Mo_of_18 (by omega) ?_
  refine A_iald hC d_Mo_of_19 ly_90 (by omega) (by omega) ?_
  refine A_iret hC d_Mo_of_20 rfl (Nat.le_refl _) (Nat.le_refl _) ?_
  exact ⟨rfl, rfl, rfl⟩
abbrev mBf (M : Mem) (r f : Int) : Prop := ¬ (1 ≤ r ∧ r ≤ M 88 3) ∨ ¬ (0 ≤ f ∧ f ≤ M 89 (M 91 r) - 1)
set_option maxHeartbeats 4000000 in
theorem k_Mo_badField (l : Launch) (n : Nat) (M : Mem) (hn : 117 ≤ n) (hB : MB M) (r f : Int) : AF l m_Mo_badField 2 [.inr 88, .inl r, .inl f] n M (some (.inl (if mBf M r f then 1 else 0))) M := by
  refine AM_intro (by decide) (Nat.le_of_ble_eq_true rfl) (fun X b0 D hC _ => ?_)
  show AW X b0 D true 0 0 _ n M 0 [some (.inr 88), some (.inl r), some (.inl f)] []
  have hB1 := hB.1
  have hB2 := hB.2.1
  have hB3 := hB.2.2.1
  have hB4 := hB.2.2.2.1
  have hB5 := hB.2.2.2.2.1
  have hB6 := hB.2.2.2.2.2
  have hB4r := hB4 r
  have hB2r := hB2 (M 91 r)
  refine A_ild1 hC d_Mo_badField_0 ?_
  refine A_iconst hC d_Mo_badField_1 (by decide) ?_
  refine A_ald0 hC d_Mo_badField_2 ?_
  refine A_getI (kI := 3) hC d_Mo_badField_3 fF_Mo_102 ⟨by decide, rfl⟩ rfl ly_88 (by omega) ?_
  refine A_SF1 (as := [.inl r, .inl 1, .inl (M 88 3)]) hC d_Mo_badField_6 mv_Mo_in lk_Mo_105 (by decide) (k_Mo_in l n M hn r 1 (M 88 3)) rfl rfl (Nat.le_of_ble_eq_true rfl) ⟨Nat.zero_le _, Nat.zero_le _⟩ rfl ?_
  refine A_ifeq (tgt := 33) hC d_Mo_badField_9 (by decide) (fun h9 => ?_) (fun h9 => ?_)
  · refine A_iconst hC d_Mo_badField_33 (by decide) ?_
    refine A_goto (tgt := 38) hC d_Mo_badField_34 (by decide) ?_
    refine A_zret hC d_Mo_badField_38 rfl (Nat.le_refl _) (Nat.le_refl _) (by first | decide | omega) ?_
    exact ⟨fx_r (by split <;> omega), rfl, rfl⟩
  · refine A_ild2 hC d_Mo_badField_12 ?_
    refine A_iconst hC d_Mo_badField_13 (by decide) ?_
    refine A_ald0 hC d_Mo_badField_14 ?_
    refine A_getCR (v := 89) hC d_Mo_badField_15 fF_Mo_7 ⟨by decide, rfl⟩ ly_88 (by omega) ⟨rfl, by decide⟩ cv_88_1 ?_
    refine A_ald0 hC d_Mo_badField_18 ?_
    refine A_getCR (v := 91) hC d_Mo_badField_19 fF_Mo_16 ⟨by decide, rfl⟩ ly_88 (by omega) ⟨rfl, by decide⟩ cv_88_4 ?_
    refine A_ild1 hC d_Mo_badField_22 ?_
    refine A_iald hC d_Mo_badField_23 ly_91 (by omega) (by omega) ?_
    refine A_iald hC d_Mo_badField_24 ly_89 (by omega) (by omega) ?_
    refine A_iconst hC d_Mo_badField_25 (by decide) ?_
    refine A_isub hC d_Mo_badField_26 (by omega) ?_
    refine A_SF1 (as := [.inl f, .inl 0, .inl ((M 89 (M 91 r)) - 1)]) hC d_Mo_badField_27 mv_Mo_in lk_Mo_105 (by decide) (k_Mo_in l n M hn f 0 ((M 89 (M 91 r)) - 1)) rfl rfl (Nat.le_of_ble_eq_true rfl) ⟨Nat.zero_le _, Nat.zero_le _⟩ rfl ?_
    refine A_ifne (tgt := 37) hC d_Mo_badField_30 (by decide) (fun h30 => ?_) (fun h30 => ?_)
    · refine A_iconst hC d_Mo_badField_37 (by decide) ?_
      refine A_zret hC d_Mo_badField_38 rfl (Nat.le_refl _) (Nat.le_refl _) (by first | decide | omega) ?_
      exact ⟨fx_r (by split <;> omega), rfl, rfl⟩
    · refine A_iconst hC d_Mo_badField_33 (by decide) ?_
      refine A_goto (tgt := 38) hC d_Mo_badField_34 (by decide) ?_
      refine A_zret hC d_Mo_badField_38 rfl (Nat.le_refl _) (Nat.le_refl _) (by first | decide | omega) ?_
      exact ⟨fx_r (by split <;> omega), rfl, rfl⟩
set_option maxHeartbeats 4000000 in
theorem k_Mo_put (l : Launch) (n : Nat) (M : Mem) (hn : 117 ≤ n) (hB : MB M) (r f x : Int) : AF l m_Mo_put 3 [.inr 88, .inl r, .inl f, .inl x] n M (some (.inl (if mBf M r f ∨ ¬ (0 ≤ x ∧ x ≤ 999) ∨ ¬ M 90 (12 * M 91 r + 3 * f + 0) = 0 then -1 else 0))) (if mBf M r f ∨ ¬ (0 ≤ x ∧ x ≤ 999) ∨ ¬ M 90 (12 * M 91 r + 3 * f + 0) = 0 then M else up (up M 92 (4 * r + f) 1) 93 (16 * r + 4 * f) x) := by
  refine AM_intro (by decide) (Nat.le_of_ble_eq_true rfl) (fun X b0 D hC _ => ?_)
  show AW X b0 D true 0 0 _ n M 0 [some (.inr 88), some (.inl r), some (.inl f), some (.inl x)] []
  have hB1 := hB.1
  have hB2 := hB.2.1
  have hB3 := hB.2.2.1
  have hB4 := hB.2.2.2.1
  have hB5 := hB.2.2.2.2.1
  have hB6 := hB.2.2.2.2.2
  have hB4r := hB4 r
  have hB2r := hB2 (M 91 r)
  refine A_ald0 hC d_Mo_put_0 ?_
  refine A_ild1 hC d_Mo_put_1 ?_
  refine A_ild2 hC d_Mo_put_2 ?_
  refine A_VF1 (as := [.inl r, .inl f]) hC d_Mo_put_3 mv_Mo_badField lk_Mo_109 (by decide) sel_Mo_badField hq_Mo ly_88 (by omega) (k_Mo_badField l n M hn hB r f) rfl rfl (Nat.le_of_ble_eq_true rfl) ⟨Nat.zero_le _, Nat.zero_le _⟩ rfl ?_
  refine A_ifne (tgt := 30) hC d_Mo_put_6 (by decide) (fun h6 => ?_) (fun h6 => ?_)
  · refine A_iconst hC d_Mo_put_30 (by decide) ?_
    refine A_iret hC d_Mo_put_31 rfl (Nat.le_refl _) (Nat.le_refl _) ?_
    exact ⟨fx_r (by repeat (first | omega | split)), rfl, by repeat (first | rfl | omega | split)⟩
  · refine A_ild3 hC d_Mo_put_9 ?_
    refine A_iconst hC d_Mo_put_10 (by decide) ?_
    refine A_sipush hC d_Mo_put_11 (by decide) (by decide) ?_
    refine A_SF1 (as := [.inl x, .inl 0, .inl 999]) hC d_Mo_put_14 mv_Mo_in lk_Mo_105 (by decide) (k_Mo_in l n M hn x 0 999) rfl rfl (Nat.le_of_ble_eq_true rfl) ⟨Nat.zero_le _, Nat.zero_le _⟩ rfl ?_
    refine A_ifeq (tgt := 30) hC d_Mo_put_17 (by decide) (fun h17 => ?_) (fun h17 => ?_)
    · refine A_iconst hC d_Mo_put_30 (by decide) ?_
      refine A_iret hC d_Mo_put_31 rfl (Nat.le_refl _) (Nat.le_refl _) ?_
      exact ⟨fx_r (by repeat (first | omega | split)), rfl, by repeat (first | rfl | omega | split)⟩
    · refine A_ald0 hC d_Mo_put_20 ?_
      refine A_ild1 hC d_Mo_put_21 ?_
      refine A_ild2 hC d_Mo_put_22 ?_
      refine A_iconst hC d_Mo_put_23 (by decide) ?_
      refine A_VF1 (as := [.inl r, .inl f, .inl 0]) hC d_Mo_put_24 mv_Mo_of lk_Mo_113 (by decide) sel_Mo_of hq_Mo ly_88 (by omega) (k_Mo_of l n M hn hB r f 0 (by omega) (by omega) (by omega)) rfl rfl (Nat.le_of_ble_eq_true rfl) ⟨Nat.zero_le _, Nat.zero_le _⟩ rfl ?_
      refine A_ifeq (tgt := 32) hC d_Mo_put_27 (by decide) (fun h27 => ?_) (fun h27 => ?_)
      · refine A_ald0 hC d_Mo_put_32 ?_
        refine A_getCR (v := 92) hC d_Mo_put_33 fF_Mo_19 ⟨by decide, rfl⟩ ly_88 (by omega) ⟨rfl, by decide⟩ cv_88_5 ?_
        refine A_iconst hC d_Mo_put_36 (by decide) ?_
        refine A_ild1 hC d_Mo_put_37 ?_
        refine A_imul hC d_Mo_put_38 (by omega) ?_
        refine A_ild2 hC d_Mo_put_39 ?_
        refine A_iadd hC d_Mo_put_40 (by omega) ?_
        refine A_iconst hC d_Mo_put_41 (by decide) ?_
        refine A_iast hC d_Mo_put_42 ly_92 (by omega) (by omega) (fun _ => kk_i _) ?_
        refine A_ald0 hC d_Mo_put_43 ?_
        refine A_getCR (v := 93) hC d_Mo_put_44 fF_Mo_22 ⟨by decide, rfl⟩ ly_88 (by omega) ⟨rfl, by decide⟩ cv_88_6 ?_
        refine A_bipush hC d_Mo_put_47 (by decide) (by decide) ?_
        refine A_ild1 hC d_Mo_put_49 ?_
        refine A_imul hC d_Mo_put_50 (by omega) ?_
        refine A_iconst hC d_Mo_put_51 (by decide) ?_
        refine A_ild2 hC d_Mo_put_52 ?_
        refine A_imul hC d_Mo_put_53 (by omega) ?_
        refine A_iadd hC d_Mo_put_54 (by omega) ?_
        refine A_ild3 hC d_Mo_put_55 ?_
        refine A_iast hC d_Mo_put_56 ly_93 (by omega) (by omega) (fun _ => kk_i _) ?_
        refine A_iconst hC d_Mo_put_57 (by decide) ?_
        refine A_iret hC d_Mo_put_58 rfl (Nat.le_refl _) (Nat.le_refl _) ?_
        exact ⟨fx_r (by repeat (first | omega | split)), rfl, by repeat (first | rfl | omega | split)⟩
      · refine A_iconst hC d_Mo_put_30 (by decide) ?_
        refine A_iret hC d_Mo_put_31 rfl (Nat.le_refl _) (Nat.le_refl _) ?_
        exact ⟨fx_r (by repeat (first | omega | split)), rfl, by repeat (first | rfl | omega | split)⟩
abbrev mlB (M : Mem) (r f x : Int) : Prop := mBf M r f ∨ ¬ (1 ≤ x ∧ x ≤ M 88 3) ∨ M 90 (12 * M 91 r + 3 * f + 0) = 0 ∨ (¬ M 90 (12 * M 91 r + 3 * f + 1) = 5 ∧ ¬ M 90 (12 * M 91 r + 3 * f + 1) = M 91 x)
abbrev mlN (M : Mem) (r f : Int) : Int := if M 90 (12 * M 91 r + 3 * f + 0) = 2 then M 92 (4 * r + f) else 0
set_option maxHeartbeats 4000000 in
theorem k_Mo_clear (l : Launch) (n : Nat) (M : Mem) (hn : 117 ≤ n) (hB : MB M) (r f : Int) : AF l m_Mo_clear 3 [.inr 88, .inl r, .inl f] n M (some (.inl (if mBf M r f then -1 else 0))) (if mBf M r f then M else up M 92 (4 * r + f) 0) := by
  refine AM_intro (by decide) (Nat.le_of_ble_eq_true rfl) (fun X b0 D hC _ => ?_)
  show AW X b0 D true 0 0 _ n M 0 [some (.inr 88), some (.inl r), some (.inl f)] []
  have hB1 := hB.1
  have hB2 := hB.2.1
  have hB3 := hB.2.2.1
  have hB4 := hB.2.2.2.1
  have hB5 := hB.2.2.2.2.1
  have hB6 := hB.2.2.2.2.2
  have hB4r := hB4 r
  have hB2r := hB2 (M 91 r)
  refine A_ald0 hC d_Mo_clear_0 ?_
  refine A_ild1 hC d_Mo_clear_1 ?_
  refine A_ild2 hC d_Mo_clear_2 ?_
  refine A_VF1 (as := [.inl r, .inl f]) hC d_Mo_clear_3 mv_Mo_badField lk_Mo_109 (by decide) sel_Mo_badField hq_Mo ly_88 (by omega) (k_Mo_badField l n M hn hB r f) rfl rfl (Nat.le_of_ble_eq_true rfl) ⟨Nat.zero_le _, Nat.zero_le _⟩ rfl ?_
  refine A_ifeq (tgt := 11) hC d_Mo_clear_6 (by decide) (fun h6 => ?_) (fun h6 => ?_)
  · refine A_ald0 hC d_Mo_clear_11 ?_
    refine A_getCR (v := 92) hC d_Mo_clear_12 fF_Mo_19 ⟨by decide, rfl⟩ ly_88 (by omega) ⟨rfl, by decide⟩ cv_88_5 ?_
    refine A_iconst hC d_Mo_clear_15 (by decide) ?_
    refine A_ild1 hC d_Mo_clear_16 ?_
    refine A_imul hC d_Mo_clear_17 (by omega) ?_
    refine A_ild2 hC d_Mo_clear_18 ?_
    refine A_iadd hC d_Mo_clear_19 (by omega) ?_
    refine A_iconst hC d_Mo_clear_20 (by decide) ?_
    refine A_iast hC d_Mo_clear_21 ly_92 (by omega) (by omega) (fun _ => kk_i _) ?_
    refine A_iconst hC d_Mo_clear_22 (by decide) ?_
    refine A_iret hC d_Mo_clear_23 rfl (Nat.le_refl _) (Nat.le_refl _) ?_
    exact ⟨fx_r (by repeat (first | omega | split)), rfl, by repeat (first | rfl | omega | split)⟩
  · refine A_iconst hC d_Mo_clear_9 (by decide) ?_
    refine A_iret hC d_Mo_clear_10 rfl (Nat.le_refl _) (Nat.le_refl _) ?_
    exact ⟨fx_r (by repeat (first | omega | split)), rfl, by repeat (first | rfl | omega | split)⟩
set_option maxHeartbeats 4000000 in
theorem k_Mo_set (l : Launch) (n : Nat) (M : Mem) (hn : 117 ≤ n) (i v : Int) : AF l m_Mo_set 2 [.inr 88, .inl i, .inl v] n M (some (.inl (if ¬ (0 ≤ i ∧ i ≤ 3) ∨ ¬ (0 ≤ v ∧ v ≤ 1) then -1 else 0))) (if ¬ (0 ≤ i ∧ i ≤ 3) ∨ ¬ (0 ≤ v ∧ v ≤ 1) then M else up M 94 i v) := by
  refine AM_intro (by decide) (Nat.le_of_ble_eq_true rfl) (fun X b0 D hC _ => ?_)
  show AW X b0 D true 0 0 _ n M 0 [some (.inr 88), some (.inl i), some (.inl v)] []
  refine A_ild1 hC d_Mo_set_0 ?_
  refine A_iconst hC d_Mo_set_1 (by decide) ?_
  refine A_iconst hC d_Mo_set_2 (by decide) ?_
  refine A_SF1 (as := [.inl i, .inl 0, .inl 3]) hC d_Mo_set_3 mv_Mo_in lk_Mo_105 (by decide) (k_Mo_in l n M hn i 0 3) rfl rfl (Nat.le_of_ble_eq_true rfl) ⟨Nat.zero_le _, Nat.zero_le _⟩ rfl ?_
  refine A_ifeq (tgt := 18) hC d_Mo_set_6 (by decide) (fun h6 => ?_) (fun h6 => ?_)
  · refine A_iconst hC d_Mo_set_18 (by decide) ?_
    refine A_iret hC d_Mo_set_19 rfl (Nat.le_refl _) (Nat.le_refl _) ?_
    exact ⟨fx_r (by repeat (first | omega | split)), rfl, by repeat (first | rfl | omega | split)⟩
  · refine A_ild2 hC d_Mo_set_9 ?_
    refine A_iconst hC d_Mo_set_10 (by decide) ?_
    refine A_iconst hC d_Mo_set_11 (by decide) ?_
    refine A_SF1 (as := [.inl v, .inl 0, .inl 1]) hC d_Mo_set_12 mv_Mo_in lk_Mo_105 (by decide) (k_Mo_in l n M hn v 0 1) rfl rfl (Nat.le_of_ble_eq_true rfl) ⟨Nat.zero_le _, Nat.zero_le _⟩ rfl ?_
    refine A_ifne (tgt := 20) hC d_Mo_set_15 (by decide) (fun h15 => ?_) (fun h15 => ?_)
    · refine A_ald0 hC d_Mo_set_20 ?_
      refine A_getCR (v := 94) hC d_Mo_set_21 fF_Mo_25 ⟨by decide, rfl⟩ ly_88 (by omega) ⟨rfl, by decide⟩ cv_88_7 ?_
      refine A_ild1 hC d_Mo_set_24 ?_
      refine A_ild2 hC d_Mo_set_25 ?_
      refine A_iast hC d_Mo_set_26 ly_94 (by omega) (by omega) (fun _ => kk_i _) ?_
      refine A_iconst hC d_Mo_set_27 (by decide) ?_
      refine A_iret hC d_Mo_set_28 rfl (Nat.le_refl _) (Nat.le_refl _) ?_
      exact ⟨fx_r (by repeat (first | omega | split)), rfl, by repeat (first | rfl | omega | split)⟩
    · refine A_iconst hC d_Mo_set_18 (by decide) ?_
      refine A_iret hC d_Mo_set_19 rfl (Nat.le_refl _) (Nat.le_refl _) ?_
      exact ⟨fx_r (by repeat (first | omega | split)), rfl, by repeat (first | rfl | omega | split)⟩
set_option maxHeartbeats 4000000 in
theorem k_Mo_fits (l : Launch) (n : Nat) (M : Mem) (hn : 117 ≤ n) (op a b : Int) : AF l m_Mo_fits 2 [.inl op, .inl a, .inl b] n M (some (.inl (if tokP op a b then 1 else 0))) M := by
  refine AM_intro (by decide) (Nat.le_of_ble_eq_true rfl) (fun X b0 D hC _ => ?_)
  show AW X b0 D true 0 0 _ n M 0 [some (.inl op), some (.inl a), some (.inl b)] []
  refine A_ild0 hC d_Mo_fits_0 ?_
  refine A_tsw (td := 111) [40, 40, 65, 73, 80, 104] hC d_Mo_fits_1 (by decide) (by decide) (by decide) ⟨fun h1 => ?_, fun h1 => ?_, fun h1 => ?_, fun h1 => ?_, fun h1 => ?_, fun h1 => ?_, trivial⟩ (fun h1 => ?_)
  · refine A_ild1 hC d_Mo_fits_40 ?_
    refine A_iconst hC d_Mo_fits_41 (by decide) ?_
    refine A_bipush hC d_Mo_fits_42 (by decide) (by decide) ?_
    refine A_SF1 (as := [.inl a, .inl 0, .inl 9]) hC d_Mo_fits_44 mv_Mo_in lk_Mo_105 (by decide) (k_Mo_in l n M hn a 0 9) rfl rfl (Nat.le_of_ble_eq_true rfl) ⟨Nat.zero_le _, Nat.zero_le _⟩ rfl ?_
    refine A_ifeq (tgt := 63) hC d_Mo_fits_47 (by decide) (fun h47 => ?_) (fun h47 => ?_)
    · refine A_iconst hC d_Mo_fits_63 (by decide) ?_
      refine A_zret hC d_Mo_fits_64 rfl (Nat.le_refl _) (Nat.le_refl _) (by first | decide | omega) ?_
      exact ⟨fx_r (by split <;> omega), rfl, rfl⟩
    · refine A_ild2 hC d_Mo_fits_50 ?_
      refine A_iconst hC d_Mo_fits_51 (by decide) ?_
      refine A_iconst hC d_Mo_fits_52 (by decide) ?_
      refine A_SF1 (as := [.inl b, .inl 0, .inl 3]) hC d_Mo_fits_53 mv_Mo_in lk_Mo_105 (by decide) (k_Mo_in l n M hn b 0 3) rfl rfl (Nat.le_of_ble_eq_true rfl) ⟨Nat.zero_le _, Nat.zero_le _⟩ rfl ?_
      refine A_ifeq (tgt := 63) hC d_Mo_fits_56 (by decide) (fun h56 => ?_) (fun h56 => ?_)
      · refine A_iconst hC d_Mo_fits_63 (by decide) ?_
        refine A_zret hC d_Mo_fits_64 rfl (Nat.le_refl _) (Nat.le_refl _) (by first | decide | omega) ?_
        exact ⟨fx_r (by split <;> omega), rfl, rfl⟩
      · refine A_iconst hC d_Mo_fits_59 (by decide) ?_
        refine A_goto (tgt := 64) hC d_Mo_fits_60 (by decide) ?_
        refine A_zret hC d_Mo_fits_64 rfl (Nat.le_refl _) (Nat.le_refl _) (by first | decide | omega) ?_
        exact ⟨fx_r (by split <;> omega), rfl, rfl⟩
  · refine A_ild1 hC d_Mo_fits_40 ?_
    refine A_iconst hC d_Mo_fits_41 (by decide) ?_
    refine A_bipush hC d_Mo_fits_42 (by decide) (by decide) ?_
    refine A_SF1 (as := [.inl a, .inl 0, .inl 9]) hC d_Mo_fits_44 mv_Mo_in lk_Mo_105 (by decide) (k_Mo_in l n M hn a 0 9) rfl rfl (Nat.le_of_ble_eq_true rfl) ⟨Nat.zero_le _, Nat.zero_le _⟩ rfl ?_
    refine A_ifeq (tgt := 63) hC d_Mo_fits_47 (by decide) (fun h47 => ?_) (fun h47 => ?_)
    · refine A_iconst hC d_Mo_fits_63 (by decide) ?_
      refine A_zret hC d_Mo_fits_64 rfl (Nat.le_refl _) (Nat.le_refl _) (by first | decide | omega) ?_
      exact ⟨fx_r (by split <;> omega), rfl, rfl⟩
    · refine A_ild2 hC d_Mo_fits_50 ?_
      refine A_iconst hC d_Mo_fits_51 (by decide) ?_
      refine A_iconst hC d_Mo_fits_52 (by decide) ?_
      refine A_SF1 (as := [.inl b, .inl 0, .inl 3]) hC d_Mo_fits_53 mv_Mo_in lk_Mo_105 (by decide) (k_Mo_in l n M hn b 0 3) rfl rfl (Nat.le_of_ble_eq_true rfl) ⟨Nat.zero_le _, Nat.zero_le _⟩ rfl ?_
      refine A_ifeq (tgt := 63) hC d_Mo_fits_56 (by decide) (fun h56 => ?_) (fun h56 => ?_)
      · refine A_iconst hC d_Mo_fits_63 (by decide) ?_
        refine A_zret hC d_Mo_fits_64 rfl (Nat.le_refl _) (Nat.le_refl _) (by first | decide | omega) ?_
        exact ⟨fx_r (by split <;> omega), rfl, rfl⟩
      · refine A_iconst hC d_Mo_fits_59 (by decide) ?_
        refine A_goto (tgt := 64) hC d_Mo_fits_60 (by decide) ?_
        refine A_zret hC d_Mo_fits_64 rfl (Nat.le_refl _) (Nat.le_refl _) (by first | decide | omega) ?_
        exact ⟨fx_r (by split <;> omega), rfl, rfl⟩
  · refine A_ild1 hC d_Mo_fits_65 ?_
    refine A_iconst hC d_Mo_fits_66 (by decide) ?_
    refine A_bipush hC d_Mo_fits_67 (by decide) (by decide) ?_
    refine A_SF1 (as := [.inl a, .inl 0, .inl 9]) hC d_Mo_fits_69 mv_Mo_in lk_Mo_105 (by decide) (k_Mo_in l n M hn a 0 9) rfl rfl (Nat.le_of_ble_eq_true rfl) ⟨Nat.zero_le _, Nat.zero_le _⟩ rfl ?_
    refine A_zret hC d_Mo_fits_72 rfl (Nat.le_refl _) (Nat.le_refl _) (by first | decide | omega) ?_
    exact ⟨fx_r (by split <;> omega), rfl, rfl⟩
  · refine A_ild1 hC d_Mo_fits_73 ?_
    refine A_iconst hC d_Mo_fits_74 (by decide) ?_
    refine A_iconst hC d_Mo_fits_75 (by decide) ?_
    refine A_SF1 (as := [.inl a, .inl 0, .inl 4]) hC d_Mo_fits_76 mv_Mo_in lk_Mo_105 (by decide) (k_Mo_in l n M hn a 0 4) rfl rfl (Nat.le_of_ble_eq_true rfl) ⟨Nat.zero_le _, Nat.zero_le _⟩ rfl ?_
    refine A_zret hC d_Mo_fits_79 rfl (Nat.le_refl _) (Nat.le_refl _) (by first | decide | omega) ?_
    exact ⟨fx_r (by split <;> omega), rfl, rfl⟩
  · refine A_ild1 hC d_Mo_fits_80 ?_
    refine A_iconst hC d_Mo_fits_81 (by decide) ?_
    refine A_iconst hC d_Mo_fits_82 (by decide) ?_
    refine A_SF1 (as := [.inl a, .inl 0, .inl 3]) hC d_Mo_fits_83 mv_Mo_in lk_Mo_105 (by decide) (k_Mo_in l n M hn a 0 3) rfl rfl (Nat.le_of_ble_eq_true rfl) ⟨Nat.zero_le _, Nat.zero_le _⟩ rfl ?_
    refine A_ifeq (tgt := 102) hC d_Mo_fits_86 (by decide) (fun h86 => ?_) (fun h86 => ?_)
    · refine A_iconst hC d_Mo_fits_102 (by decide) ?_
      refine A_zret hC d_Mo_fits_103 rfl (Nat.le_refl _) (Nat.le_refl _) (by first | decide | omega) ?_
      exact ⟨fx_r (by split <;> omega), rfl, rfl⟩
    · refine A_ild2 hC d_Mo_fits_89 ?_
      refine A_iconst hC d_Mo_fits_90 (by decide) ?_
      refine A_iconst hC d_Mo_fits_91 (by decide) ?_
      refine A_SF1 (as := [.inl b, .inl 0, .inl 1]) hC d_Mo_fits_92 mv_Mo_in lk_Mo_105 (by decide) (k_Mo_in l n M hn b 0 1) rfl rfl (Nat.le_of_ble_eq_true rfl) ⟨Nat.zero_le _, Nat.zero_le _⟩ rfl ?_
      refine A_ifeq (tgt := 102) hC d_Mo_fits_95 (by decide) (fun h95 => ?_) (fun h95 => ?_)
      · refine A_iconst hC d_Mo_fits_102 (by decide) ?_
        refine A_zret hC d_Mo_fits_103 rfl (Nat.le_refl _) (Nat.le_refl _) (by first | decide | omega) ?_
        exact ⟨fx_r (by split <;> omega), rfl, rfl⟩
      · refine A_iconst hC d_Mo_fits_98 (by decide) ?_
        refine A_goto (tgt := 103) hC d_Mo_fits_99 (by decide) ?_
        refine A_zret hC d_Mo_fits_103 rfl (Nat.le_refl _) (Nat.le_refl _) (by first | decide | omega) ?_
        exact ⟨fx_r (by split <;> omega), rfl, rfl⟩
  · refine A_ild1 hC d_Mo_fits_104 ?_
    refine A_iconst hC d_Mo_fits_105 (by decide) ?_
    refine A_iconst hC d_Mo_fits_106 (by decide) ?_
    refine A_SF1 (as := [.inl a, .inl 1, .inl 3]) hC d_Mo_fits_107 mv_Mo_in lk_Mo_105 (by decide) (k_Mo_in l n M hn a 1 3) rfl rfl (Nat.le_of_ble_eq_true rfl) ⟨Nat.zero_le _, Nat.zero_le _⟩ rfl ?_
    refine A_zret hC d_Mo_fits_110 rfl (Nat.le_refl _) (Nat.le_refl _) (by first | decide | omega) ?_
    exact ⟨fx_r (by split <;> omega), rfl, rfl⟩
  · refine A_ild0 hC d_Mo_fits_111 ?_
    refine A_bipush hC d_Mo_fits_112 (by decide) (by decide) ?_
    refine A_icmpne (tgt := 121) hC d_Mo_fits_114 (by decide) (fun h114 => ?_) (fun h114 => ?_)
    · refine A_iconst hC d_Mo_fits_121 (by decide) ?_
      refine A_zret hC d_Mo_fits_122 rfl (Nat.le_refl _) (Nat.le_refl _) (by first | decide | omega) ?_
      exact ⟨fx_r (by split <;> omega), rfl, rfl⟩
    · refine A_iconst hC d_Mo_fits_117 (by decide) ?_
      refine A_goto (tgt := 122) hC d_Mo_fits_118 (by decide) ?_
      refine A_zret hC d_Mo_fits_122 rfl (Nat.le_refl _) (Nat.le_refl _) (by first | decide | omega) ?_
      exact ⟨fx_r (by split <;> omega), rfl, rfl⟩
set_option maxHeartbeats 4000000 in
theorem k_Mo_token (l : Launch) (n : Nat) (M : Mem) (hn : 117 ≤ n) (hB : MB M) (t o a b : Int) : AF l m_Mo_token 3 [.inr 88, .inl t, .inl o, .inl a, .inl b] n M (some (.inl (if ¬ (0 ≤ t ∧ t ≤ 3) ∨ ¬ tokP o a b then -1 else if M 95 t = 16 then -2 else M 95 t + 1))) (if ¬ (0 ≤ t ∧ t ≤ 3) ∨ ¬ tokP o a b then M else if M 95 t = 16 then M else up (up (up (up M 96 (16 * t + M 95 t) o) 97 (16 * t + M 95 t) a) 98 (16 * t + M 95 t) b) 95 t (M 95 t + 1)) := by
  refine AM_intro (by decide) (Nat.le_of_ble_eq_true rfl) (fun X b0 D hC _ => ?_)
  show AW X b0 D true 0 0 _ n M 0 [some (.inr 88), some (.inl t), some (.inl o), some (.inl a), some (.inl b), none] []
  have hB1 := hB.1
  have hB2 := hB.2.1
  have hB3 := hB.2.2.1
  have hB4 := hB.2.2.2.1
  have hB5 := hB.2.2.2.2.1
  have hB6 := hB.2.2.2.2.2
  have hB6t := hB6 t
  refine A_ild1 hC d_Mo_token_0 ?_
  refine A_iconst hC d_Mo_token_1 (by decide) ?_
  refine A_iconst hC d_Mo_token_2 (by decide) ?_
  refine A_SF1 (as := [.inl t, .inl 0, .inl 3]) hC d_Mo_token_3 mv_Mo_in lk_Mo_105 (by decide) (k_Mo_in l n M hn t 0 3) rfl rfl (Nat.le_of_ble_eq_true rfl) ⟨Nat.zero_le _, Nat.zero_le _⟩ rfl ?_
  refine A_ifeq (tgt := 19) hC d_Mo_token_6 (by decide) (fun h6 => ?_) (fun h6 => ?_)
  · refine A_iconst hC d_Mo_token_19 (by decide) ?_
    refine A_iret hC d_Mo_token_20 rfl (Nat.le_refl _) (Nat.le_refl _) ?_
    exact ⟨fx_r (by repeat (first | omega | split)), rfl, by repeat (first | rfl | omega | split)⟩
  · refine A_ild2 hC d_Mo_token_9 ?_
    refine A_ild3 hC d_Mo_token_10 ?_
    refine A_ild4 hC d_Mo_token_11 ?_
    refine A_SF1 (as := [.inl o, .inl a, .inl b]) hC d_Mo_token_13 mv_Mo_fits lk_Mo_117 (by decide) (k_Mo_fits l n M hn o a b) rfl rfl (Nat.le_of_ble_eq_true rfl) ⟨Nat.zero_le _, Nat.zero_le _⟩ rfl ?_
    refine A_ifne (tgt := 21) hC d_Mo_token_16 (by decide) (fun h16 => ?_) (fun h16 => ?_)
    · refine A_ald0 hC d_Mo_token_21 ?_
      refine A_getCR (v := 95) hC d_Mo_token_22 fF_Mo_28 ⟨by decide, rfl⟩ ly_88 (by omega) ⟨rfl, by decide⟩ cv_88_8 ?_
      refine A_ild1 hC d_Mo_token_25 ?_
      refine A_iald hC d_Mo_token_26 ly_95 (by omega) (by omega) ?_
      refine A_bipush hC d_Mo_token_27 (by decide) (by decide) ?_
      refine A_icmpne (tgt := 35) hC d_Mo_token_29 (by decide) (fun h29 => ?_) (fun h29 => ?_)
      · refine A_bipush hC d_Mo_token_35 (by decide) (by decide) ?_
        refine A_ild1 hC d_Mo_token_37 ?_
        refine A_imul hC d_Mo_token_38 (by omega) ?_
        refine A_ald0 hC d_Mo_token_39 ?_
        refine A_getCR (v := 95) hC d_Mo_token_40 fF_Mo_28 ⟨by decide, rfl⟩ ly_88 (by omega) ⟨rfl, by decide⟩ cv_88_8 ?_
        refine A_ild1 hC d_Mo_token_43 ?_
        refine A_iald hC d_Mo_token_44 ly_95 (by omega) (by omega) ?_
        refine A_iadd hC d_Mo_token_45 (by omega) ?_
        refine A_ist5 hC d_Mo_token_46 ?_
        refine A_ald0 hC d_Mo_token_48 ?_
        refine A_getCR (v := 96) hC d_Mo_token_49 fF_Mo_31 ⟨by decide, rfl⟩ ly_88 (by omega) ⟨rfl, by decide⟩ cv_88_9 ?_
        refine A_ild5 hC d_Mo_token_52 ?_
        refine A_ild2 hC d_Mo_token_54 ?_
        refine A_iast hC d_Mo_token_55 ly_96 (by omega) (by omega) (fun _ => kk_i _) ?_
        refine A_ald0 hC d_Mo_token_56 ?_
        refine A_getCR (v := 97) hC d_Mo_token_57 fF_Mo_34 ⟨by decide, rfl⟩ ly_88 (by omega) ⟨rfl, by decide⟩ cv_88_10 ?_
        refine A_ild5 hC d_Mo_token_60 ?_
        refine A_ild3 hC d_Mo_token_62 ?_
        refine A_iast hC d_Mo_token_63 ly_97 (by omega) (by omega) (fun _ => kk_i _) ?_
        refine A_ald0 hC d_Mo_token_64 ?_
        refine A_getCR (v := 98) hC d_Mo_token_65 fF_Mo_37 ⟨by decide, rfl⟩ ly_88 (by omega) ⟨rfl, by decide⟩ cv_88_11 ?_
        refine A_ild5 hC d_Mo_token_68 ?_
        refine A_ild4 hC d_Mo_token_70 ?_
        refine A_iast hC d_Mo_token_72 ly_98 (by omega) (by omega) (fun _ => kk_i _) ?_
        refine A_ald0 hC d_Mo_token_73 ?_
        refine A_getCR (v := 95) hC d_Mo_token_74 fF_Mo_28 ⟨by decide, rfl⟩ ly_88 (by omega) ⟨rfl, by decide⟩ cv_88_8 ?_
        refine A_ild1 hC d_Mo_token_77 ?_
        refine A_dup2 hC d_Mo_token_78 ?_
        refine A_ialdE (x := M 95 t) hC d_Mo_token_79 ly_95 (by omega) (by omega) (by rw [up_nc (c := 98) (c' := 95) (by decide), up_nc (c := 97) (c' := 95) (by decide), up_nc (c := 96) (c' := 95) (by decide)]) ?_
        refine A_iconst hC d_Mo_token_80 (by decide) ?_
        refine A_iadd hC d_Mo_token_81 (by omega) ?_
        refine A_iast hC d_Mo_token_82 ly_95 (by omega) (by omega) (fun _ => kk_i _) ?_
        refine A_ald0 hC d_Mo_token_83 ?_
        refine A_getCR (v := 95) hC d_Mo_token_84 fF_Mo_28 ⟨by decide, rfl⟩ ly_88 (by omega) ⟨rfl, by decide⟩ cv_88_8 ?_
        refine A_ild1 hC d_Mo_token_87 ?_
        refine A_ialdE (x := (M 95 t) + 1) hC d_Mo_token_88 ly_95 (by omega) (by omega) (by rw [up_eq]) ?_
        refine A_iret hC d_Mo_token_89 rfl (Nat.le_refl _) (Nat.le_refl _) ?_
        exact ⟨fx_r (by repeat (first | omega | split)), rfl, by repeat (first | rfl | omega | split)⟩
      · refine A_bipush hC d_Mo_token_32 (by decide) (by decide) ?_
        refine A_iret hC d_Mo_token_34 rfl (Nat.le_refl _) (Nat.le_refl _) ?_
        exact ⟨fx_r (by repeat (first | omega | split)), rfl, by repeat (first | rfl | omega | split)⟩
    · refine A_iconst hC d_Mo_token_19 (by decide) ?_
      refine A_iret hC d_Mo_token_20 rfl (Nat.le_refl _) (Nat.le_refl _) ?_
      exact ⟨fx_r (by repeat (first | omega | split)), rfl, by repeat (first | rfl | omega | split)⟩
set_option maxHeartbeats 4000000 in
theorem k_Mo_wipe (l : Launch) (n : Nat) (M : Mem) (hn : 117 ≤ n) (t : Int) : AF l m_Mo_wipe 2 [.inr 88, .inl t] n M (some (.inl (if ¬ (0 ≤ t ∧ t ≤ 3) then -1 else M 95 t))) (if ¬ (0 ≤ t ∧ t ≤ 3) then M else up M 95 t 0) := by
  refine AM_intro (by decide) (Nat.le_of_ble_eq_true rfl) (fun X b0 D hC _ => ?_)
  show AW X b0 D true 0 0 _ n M 0 [some (.inr 88), some (.inl t), none] []
  refine A_ild1 hC d_Mo_wipe_0 ?_
  refine A_iconst hC d_Mo_wipe_1 (by decide) ?_
  refine A_iconst hC d_Mo_wipe_2 (by decide) ?_
  refine A_SF1 (as := [.inl t, .inl 0, .inl 3]) hC d_Mo_wipe_3 mv_Mo_in lk_Mo_105 (by decide) (k_Mo_in l n M hn t 0 3) rfl rfl (Nat.le_of_ble_eq_true rfl) ⟨Nat.zero_le _, Nat.zero_le _⟩ rfl ?_
  refine A_ifne (tgt := 11) hC d_Mo_wipe_6 (by decide) (fun h6 => ?_) (fun h6 => ?_)
  · refine A_ald0 hC d_Mo_wipe_11 ?_
    refine A_getCR (v := 95) hC d_Mo_wipe_12 fF_Mo_28 ⟨by decide, rfl⟩ ly_88 (by omega) ⟨rfl, by decide⟩ cv_88_8 ?_
    refine A_ild1 hC d_Mo_wipe_15 ?_
    refine A_iald hC d_Mo_wipe_16 ly_95 (by omega) (by omega) ?_
    refine A_ist2 hC d_Mo_wipe_17 ?_
    refine A_ald0 hC d_Mo_wipe_18 ?_
    refine A_getCR (v := 95) hC d_Mo_wipe_19 fF_Mo_28 ⟨by decide, rfl⟩ ly_88 (by omega) ⟨rfl, by decide⟩ cv_88_8 ?_
    refine A_ild1 hC d_Mo_wipe_22 ?_
    refine A_iconst hC d_Mo_wipe_23 (by decide) ?_
    refine A_iast hC d_Mo_wipe_24 ly_95 (by omega) (by omega) (fun _ => kk_i _) ?_
    refine A_ild2 hC d_Mo_wipe_25 ?_
    refine A_iret hC d_Mo_wipe_26 rfl (Nat.le_refl _) (Nat.le_refl _) ?_
    exact ⟨fx_r (by repeat (first | omega | split)), rfl, by repeat (first | rfl | omega | split)⟩
  · refine A_iconst hC d_Mo_wipe_9 (by decide) ?_
    refine A_iret hC d_Mo_wipe_10 rfl (Nat.le_refl _) (Nat.le_refl _) ?_
    exact ⟨fx_r (by repeat (first | omega | split)), rfl, by repeat (first | rfl | omega | split)⟩
set_option maxHeartbeats 4000000 in
theorem k_Mo_opens (l : Launch) (n : Nat) (M : Mem) (hn : 117 ≤ n) (i : Int) (hi : 0 ≤ i ∧ i ≤ 63) : AF l m_Mo_opens 1 [.inr 88, .inl i] n M (some (.inl (if opnP (M 96 i) then 1 else 0))) M := by
  refine AM_intro (by decide) (Nat.le_of_ble_eq_true rfl) (fun X b0 D hC _ => ?_)
  show AW X b0 D true 0 0 _ n M 0 [some (.inr 88), some (.inl i)] []
  refine A_ald0 hC d_Mo_opens_0 ?_
  refine A_getCR (v := 96) hC d_Mo_opens_1 fF_Mo_31 ⟨by decide, rfl⟩ ly_88 (by omega) ⟨rfl, by decide⟩ cv_88_9 ?_
  refine A_ild1 hC d_Mo_opens_4 ?_
  refine A_iald hC d_Mo_opens_5 ly_96 (by omega) (by omega) ?_
  refine A_iconst hC d_Mo_opens_6 (by decide) ?_
  refine A_icmpeq (tgt := 30) hC d_Mo_opens_7 (by decide) (fun h7 => ?_) (fun h7 => ?_)
  · refine A_iconst hC d_Mo_opens_30 (by decide) ?_
    refine A_goto (tgt := 35) hC d_Mo_opens_31 (by decide) ?_
    refine A_zret hC d_Mo_opens_35 rfl (Nat.le_refl _) (Nat.le_refl _) (by first | decide | omega) ?_
    exact ⟨fx_r (by split <;> omega), rfl, rfl⟩
  · refine A_ald0 hC d_Mo_opens_10 ?_
    refine A_getCR (v := 96) hC d_Mo_opens_11 fF_Mo_31 ⟨by decide, rfl⟩ ly_88 (by omega) ⟨rfl, by decide⟩ cv_88_9 ?_
    refine A_ild1 hC d_Mo_opens_14 ?_
    refine A_iald hC d_Mo_opens_15 ly_96 (by omega) (by omega) ?_
    refine A_iconst hC d_Mo_opens_16 (by decide) ?_
    refine A_icmpeq (tgt := 30) hC d_Mo_opens_17 (by decide) (fun h17 => ?_) (fun h17 => ?_)
    · refine A_iconst hC d_Mo_opens_30 (by decide) ?_
      refine A_goto (tgt := 35) hC d_Mo_opens_31 (by decide) ?_
      refine A_zret hC d_Mo_opens_35 rfl (Nat.le_refl _) (Nat.le_refl _) (by first | decide | omega) ?_
      exact ⟨fx_r (by split <;> omega), rfl, rfl⟩
    · refine A_ald0 hC d_Mo_opens_20 ?_
      refine A_getCR (v := 96) hC d_Mo_opens_21 fF_Mo_31 ⟨by decide, rfl⟩ ly_88 (by omega) ⟨rfl, by decide⟩ cv_88_9 ?_
      refine A_ild1 hC d_Mo_opens_24 ?_
      refine A_iald hC d_Mo_opens_25 ly_96 (by omega) (by omega) ?_
      refine A_iconst hC d_Mo_opens_26 (by decide) ?_
      refine A_icmpne (tgt := 34) hC d_Mo_opens_27 (by decide) (fun h27 => ?_) (fun h27 => ?_)
      · refine A_iconst hC d_Mo_opens_34 (by decide) ?_
        refine A_zret hC d_Mo_opens_35 rfl (Nat.le_refl _) (Nat.le_refl _) (by first | decide | omega) ?_
        exact ⟨fx_r (by split <;> omega), rfl, rfl⟩
      · refine A_iconst hC d_Mo_opens_30 (by decide) ?_
        refine A_goto (tgt := 35) hC d_Mo_opens_31 (by decide) ?_
        refine A_zret hC d_Mo_opens_35 rfl (Nat.le_refl _) (Nat.le_refl _) (by first | decide | omega) ?_
        exact ⟨fx_r (by split <;> omega), rfl, rfl⟩
set_option maxHeartbeats 4000000 in
theorem k_Mo_place (l : Launch) (n : Nat) (M : Mem) (hn : 117 ≤ n) : AF l m_Mo_place 1 [.inr 88] n M (some (.inl (M 88 12))) M := by
  refine AM_intro (by decide) (Nat.le_of_ble_eq_true rfl) (fun X b0 D hC _ => ?_)
  show AW X b0 D true 0 0 _ n M 0 [some (.inr 88)] []
  refine A_ald0 hC d_Mo_place_0 ?_
  refine A_getI (kI := 12) hC d_Mo_place_1 fF_Mo_40 ⟨by decide, rfl⟩ rfl ly_88 (by omega) ?_
  refine A_iret hC d_Mo_place_4 rfl (Nat.le_refl _) (Nat.le_refl _) ?_
  exact ⟨rfl, rfl, rfl⟩
set_option maxHeartbeats 4000000 in
theorem k_Mo_code (l : Launch) (n : Nat) (M : Mem) (hn : 117 ≤ n) (hc : 0 ≤ M 88 31 ∧ M 88 31 ≤ 130) (i : Int) : AF l m_Mo_code 2 [.inr 88, .inl i] n M (some (.inl (if 0 ≤ i ∧ i ≤ M 88 31 - 1 then M 114 i else -1))) M := by
  refine AM_intro (by decide) (Nat.le_of_ble_eq_true rfl) (fun X b0 D hC _ => ?_)
  show AW X b0 D true 0 0 _ n M 0 [some (.inr 88), some (.inl i)] []
  refine A_ild1 hC d_Mo_code_0 ?_
  refine A_iconst hC d_Mo_code_1 (by decide) ?_
  refine A_ald0 hC d_Mo_code_2 ?_
  refine A_getI (kI := 31) hC d_Mo_code_3 fF_Mo_160 ⟨by decide, rfl⟩ rfl ly_88 (by omega) ?_
  refine A_iconst hC d_Mo_code_6 (by decide) ?_
  refine A_isub hC d_Mo_code_7 (by omega) ?_
  refine A_SF1 (as := [.inl i, .inl 0, .inl ((M 88 31) - 1)]) hC d_Mo_code_8 mv_Mo_in lk_Mo_105 (by decide) (k_Mo_in l n M hn i 0 ((M 88 31) - 1)) rfl rfl (Nat.le_of_ble_eq_true rfl) ⟨Nat.zero_le _, Nat.zero_le _⟩ rfl ?_
  refine A_ifeq (tgt := 23) hC d_Mo_code_11 (by decide) (fun h11 => ?_) (fun h11 => ?_)
  · refine A_iconst hC d_Mo_code_23 (by decide) ?_
    refine A_iret hC d_Mo_code_24 rfl (Nat.le_refl _) (Nat.le_refl _) ?_
    exact ⟨fx_r (by repeat (first | omega | split)), rfl, by repeat (first | rfl | omega | split)⟩
  · refine A_ald0 hC d_Mo_code_14 ?_
    refine A_getCR (v := 114) hC d_Mo_code_15 fF_Mo_90 ⟨by decide, rfl⟩ ly_88 (by omega) ⟨rfl, by decide⟩ cv_88_32 ?_
    refine A_ild1 hC d_Mo_code_18 ?_
    refine A_iald hC d_Mo_code_19 ly_114 (by omega) (by omega) ?_
    refine A_goto (tgt := 24) hC d_Mo_code_20 (by decide) ?_
    refine A_iret hC d_Mo_code_24 rfl (Nat.le_refl _) (Nat.le_refl _) ?_
    exact ⟨fx_r (by repeat (first | omega | split)), rfl, by repeat (first | rfl | omega | split)⟩
set_option maxHeartbeats 4000000 in
theorem k_Mo_count (l : Launch) (n : Nat) (M : Mem) (hn : 117 ≤ n) (i : Int) : AF l m_Mo_count 2 [.inr 88, .inl i] n M (some (.inl (if i = 0 then M 88 0 else if i = 1 then M 88 3 else if i = 2 then M 88 31 else if i = 3 then M 88 33 else if 4 ≤ i ∧ i ≤ 7 then M 95 (i - 4) else -1))) M := by
  refine AM_intro (by decide) (Nat.le_of_ble_eq_true rfl) (fun X b0 D hC _ => ?_)
  show AW X b0 D true 0 0 _ n M 0 [some (.inr 88), some (.inl i)] []
  refine A_ild1 hC d_Mo_count_0 ?_
  refine A_iconst hC d_Mo_count_1 (by decide) ?_
  refine A_iconst hC d_Mo_count_2 (by decide) ?_
  refine A_SF1 (as := [.inl i, .inl 0, .inl 1]) hC d_Mo_count_3 mv_Mo_in lk_Mo_105 (by decide) (k_Mo_in l n M hn i 0 1) rfl rfl (Nat.le_of_ble_eq_true rfl) ⟨Nat.zero_le _, Nat.zero_le _⟩ rfl ?_
  refine A_ifeq (tgt := 25) hC d_Mo_count_6 (by decide) (fun h6 => ?_) (fun h6 => ?_)
  · refine A_ild1 hC d_Mo_count_25 ?_
    refine A_iconst hC d_Mo_count_26 (by decide) ?_
    refine A_iconst hC d_Mo_count_27 (by decide) ?_
    refine A_SF1 (as := [.inl i, .inl 2, .inl 3]) hC d_Mo_count_28 mv_Mo_in lk_Mo_105 (by decide) (k_Mo_in l n M hn i 2 3) rfl rfl (Nat.le_of_ble_eq_true rfl) ⟨Nat.zero_le _, Nat.zero_le _⟩ rfl ?_
    refine A_ifeq (tgt := 51) hC d_Mo_count_31 (by decide) (fun h31 => ?_) (fun h31 => ?_)
    · refine A_ild1 hC d_Mo_count_51 ?_
      refine A_iconst hC d_Mo_count_52 (by decide) ?_
      refine A_bipush hC d_Mo_count_53 (by decide) (by decide) ?_
      refine A_SF1 (as := [.inl i, .inl 4, .inl 7]) hC d_Mo_count_55 mv_Mo_in lk_Mo_105 (by decide) (k_Mo_in l n M hn i 4 7) rfl rfl (Nat.le_of_ble_eq_true rfl) ⟨Nat.zero_le _, Nat.zero_le _⟩ rfl ?_
      refine A_ifeq (tgt := 72) hC d_Mo_count_58 (by decide) (fun h58 => ?_) (fun h58 => ?_)
      · refine A_iconst hC d_Mo_count_72 (by decide) ?_
        refine A_iret hC d_Mo_count_73 rfl (Nat.le_refl _) (Nat.le_refl _) ?_
        exact ⟨fx_r (by repeat (first | omega | split)), rfl, by repeat (first | rfl | omega | split)⟩
      · refine A_ald0 hC d_Mo_count_61 ?_
        refine A_getCR (v := 95) hC d_Mo_count_62 fF_Mo_28 ⟨by decide, rfl⟩ ly_88 (by omega) ⟨rfl, by decide⟩ cv_88_8 ?_
        refine A_ild1 hC d_Mo_count_65 ?_
        refine A_iconst hC d_Mo_count_66 (by decide) ?_
        refine A_isub hC d_Mo_count_67 (by omega) ?_
        refine A_iald hC d_Mo_count_68 ly_95 (by omega) (by omega) ?_
        refine A_goto (tgt := 73) hC d_Mo_count_69 (by decide) ?_
        refine A_iret hC d_Mo_count_73 rfl (Nat.le_refl _) (Nat.le_refl _) ?_
        exact ⟨fx_r (by repeat (first | omega | split)), rfl, by repeat (first | rfl | omega | split)⟩
    · refine A_ild1 hC d_Mo_count_34 ?_
      refine A_iconst hC d_Mo_count_35 (by decide) ?_
      refine A_icmpne (tgt := 46) hC d_Mo_count_36 (by decide) (fun h36 => ?_) (fun h36 => ?_)
      · refine A_ald0 hC d_Mo_count_46 ?_
        refine A_getI (kI := 33) hC d_Mo_count_47 fF_Mo_175 ⟨by decide, rfl⟩ rfl ly_88 (by omega) ?_
        refine A_iret hC d_Mo_count_50 rfl (Nat.le_refl _) (Nat.le_refl _) ?_
        exact ⟨fx_r (by repeat (first | omega | split)), rfl, by repeat (first | rfl | omega | split)⟩
      · refine A_ald0 hC d_Mo_count_39 ?_
        refine A_getI (kI := 31) hC d_Mo_count_40 fF_Mo_160 ⟨by decide, rfl⟩ rfl ly_88 (by omega) ?_
        refine A_goto (tgt := 50) hC d_Mo_count_43 (by decide) ?_
        refine A_iret hC d_Mo_count_50 rfl (Nat.le_refl _) (Nat.le_refl _) ?_
        exact ⟨fx_r (by repeat (first | omega | split)), rfl, by repeat (first | rfl | omega | split)⟩
  · refine A_ild1 hC d_Mo_count_9 ?_
    refine A_ifne (tgt := 20) hC d_Mo_count_10 (by decide) (fun h10 => ?_) (fun h10 => ?_)
    · refine A_ald0 hC d_Mo_count_20 ?_
      refine A_getI (kI := 3) hC d_Mo_count_21 fF_Mo_102 ⟨by decide, rfl⟩ rfl ly_88 (by omega) ?_
      refine A_iret hC d_Mo_count_24 rfl (Nat.le_refl _) (Nat.le_refl _) ?_
      exact ⟨fx_r (by repeat (first | omega | split)), rfl, by repeat (first | rfl | omega | split)⟩
    · refine A_ald0 hC d_Mo_count_13 ?_
      refine A_getI (kI := 0) hC d_Mo_count_14 fF_Mo_99 ⟨by decide, rfl⟩ rfl ly_88 (by omega) ?_
      refine A_goto (tgt := 24) hC d_Mo_count_17 (by decide) ?_
      refine A_iret hC d_Mo_count_24 rfl (Nat.le_refl _) (Nat.le_refl _) ?_
      exact ⟨fx_r (by repeat (first | omega | split)), rfl, by repeat (first | rfl | omega | split)⟩
set_option maxHeartbeats 4000000 in
theorem k_Mo_enter (l : Launch) (n : Nat) (M : Mem) (hn : 117 ≤ n) (t b : Int) (ho : 0 ≤ M 88 13 ∧ M 88 13 ≤ 69) : AF l m_Mo_enter 1 [.inr 88, .inl t, .inl b] n M none (up (up (up M 99 (M 88 13) t) 100 (M 88 13) b) 88 13 (M 88 13 + 1)) := by
  refine AM_intro (by decide) (Nat.le_of_ble_eq_true rfl) (fun X b0 D hC _ => ?_)
  show AW X b0 D true 0 0 _ n M 0 [some (.inr 88), some (.inl t), some (.inl b)] []
  refine A_ald0 hC d_Mo_enter_0 ?_
  refine A_getCR (v := 99) hC d_Mo_enter_1 fF_Mo_44 ⟨by decide, rfl⟩ ly_88 (by omega) ⟨rfl, by decide⟩ cv_88_14 ?_
  refine A_ald0 hC d_Mo_enter_4 ?_
  refine A_getI (kI := 13) hC d_Mo_enter_5 fF_Mo_130 ⟨by decide, rfl⟩ rfl ly_88 (by omega) ?_
  refine A_ild1 hC d_Mo_enter_8 ?_
  refine A_iast hC d_Mo_enter_9 ly_99 (by omega) (by omega) (fun _ => kk_i _) ?_
  refine A_ald0 hC d_Mo_enter_10 ?_
  refine A_getCR (v := 100) hC d_Mo_enter_11 fF_Mo_47 ⟨by decide, rfl⟩ ly_88 (by omega) ⟨rfl, by decide⟩ cv_88_15 ?_
  refine A_ald0 hC d_Mo_enter_14 ?_
  refine A_getIE (x := M 88 13) (kI := 13) hC d_Mo_enter_15 fF_Mo_130 ⟨by decide, rfl⟩ rfl ly_88 (by omega) (by rw [up_nc (c := 99) (c' := 88) (by decide)]) ?_
  refine A_ild2 hC d_Mo_enter_18 ?_
  refine A_iast hC d_Mo_enter_19 ly_100 (by omega) (by omega) (fun _ => kk_i _) ?_
  refine A_ald0 hC d_Mo_enter_20 ?_
  refine A_dup hC d_Mo_enter_21 ?_
  refine A_getIE (x := M 88 13) (kI := 13) hC d_Mo_enter_22 fF_Mo_130 ⟨by decide, rfl⟩ rfl ly_88 (by omega) (by rw [up_nc (c := 100) (c' := 88) (by decide), up_nc (c := 99) (c' := 88) (by decide)]) ?_
  refine A_iconst hC d_Mo_enter_25 (by decide) ?_
  refine A_iadd hC d_Mo_enter_26 (by omega) ?_
  refine A_putI (kI := 13) hC d_Mo_enter_27 fP_Mo_130 ⟨by decide, rfl⟩ rfl ly_88 (by omega) (fun _ => by decide) ?_
  refine A_vret hC d_Mo_enter_30 rfl (Nat.le_refl _) (Nat.le_refl _) ?_
  exact ⟨rfl, rfl, rfl⟩
set_option maxHeartbeats 4000000 in
theorem k_Mo_addSet (l : Launch) (n : Nat) (M : Mem) (hn : 117 ≤ n) (j e i : Int) (hj : 0 ≤ j ∧ j ≤ 39) (hs : 0 ≤ M 107 j ∧ M 107 j ≤ 63) : AF l m_Mo_addSet 1 [.inr 88, .inl j, .inl e, .inl i] n M none (up (up (up M 108 (64 * j + M 107 j) i) 109 (64 * j + M 107 j) e) 107 j (M 107 j + 1)) := by
  refine AM_intro (by decide) (Nat.le_of_ble_eq_true rfl) (fun X b0 D hC _ => ?_)
  show AW X b0 D true 0 0 _ n M 0 [some (.inr 88), some (.inl j), some (.inl e), some (.inl i)] []
  refine A_ald0 hC d_Mo_addSet_0 ?_
  refine A_getCR (v := 108) hC d_Mo_addSet_1 fF_Mo_72 ⟨by decide, rfl⟩ ly_88 (by omega) ⟨rfl, by decide⟩ cv_88_24 ?_
  refine A_bipush hC d_Mo_addSet_4 (by decide) (by decide) ?_
  refine A_ild1 hC d_Mo_addSet_6 ?_
  refine A_imul hC d_Mo_addSet_7 (by omega) ?_
  refine A_ald0 hC d_Mo_addSet_8 ?_
  refine A_getCR (v := 107) hC d_Mo_addSet_9 fF_Mo_69 ⟨by decide, rfl⟩ ly_88 (by omega) ⟨rfl, by decide⟩ cv_88_23 ?_
  refine A_ild1 hC d_Mo_addSet_12 ?_
  refine A_iald hC d_Mo_addSet_13 ly_107 (by omega) (by omega) ?_
  refine A_iadd hC d_Mo_addSet_14 (by omega) ?_
  refine A_ild3 hC d_Mo_addSet_15 ?_
  refine A_iast hC d_Mo_addSet_16 ly_108 (by omega) (by omega) (fun _ => kk_i _) ?_
  refine A_ald0 hC d_Mo_addSet_17 ?_
  refine A_getCR (v := 109) hC d_Mo_addSet_18 fF_Mo_75 ⟨by decide, rfl⟩ ly_88 (by omega) ⟨rfl, by decide⟩ cv_88_25 ?_
  refine A_bipush hC d_Mo_addSet_21 (by decide) (by decide) ?_
  refine A_ild1 hC d_Mo_addSet_23 ?_
  refine A_imul hC d_Mo_addSet_24 (by omega) ?_
  refine A_ald0 hC d_Mo_addSet_25 ?_
  refine A_getCR (v := 107) hC d_Mo_addSet_26 fF_Mo_69 ⟨by decide, rfl⟩ ly_88 (by omega) ⟨rfl, by decide⟩ cv_88_23 ?_
  refine A_ild1 hC d_Mo_addSet_29 ?_
  refine A_ialdE (x := M 107 j) hC d_Mo_addSet_30 ly_107 (by omega) (by omega) (by rw [up_nc (c := 108) (c' := 107) (by decide)]) ?_
  refine A_iadd hC d_Mo_addSet_31 (by omega) ?_
  refine A_ild2 hC d_Mo_addSet_32 ?_
  refine A_iast hC d_Mo_addSet_33 ly_109 (by omega) (by omega) (fun _ => kk_i _) ?_
  refine A_ald0 hC d_Mo_addSet_34 ?_
  refine A_getCR (v := 107) hC d_Mo_addSet_35 fF_Mo_69 ⟨by decide, rfl⟩ ly_88 (by omega) ⟨rfl, by decide⟩ cv_88_23 ?_
  refine A_ild1 hC d_Mo_addSet_38 ?_
  refine A_dup2 hC d_Mo_addSet_39 ?_
  refine A_ialdE (x := M 107 j) hC d_Mo_addSet_40 ly_107 (by omega) (by omega) (by rw [up_nc (c := 109) (c' := 107) (by decide), up_nc (c := 108) (c' := 107) (by decide)]) ?_
  refine A_iconst hC d_Mo_addSet_41 (by decide) ?_
  refine A_iadd hC d_Mo_addSet_42 (by omega) ?_
  refine A_iast hC d_Mo_addSet_43 ly_107 (by omega) (by omega) (fun _ => kk_i _) ?_
  refine A_vret hC d_Mo_addSet_44 rfl (Nat.le_refl _) (Nat.le_refl _) ?_
  exact ⟨rfl, rfl, rfl⟩
def mSay (M : Mem) (c : Int) : Mem := if M 88 30 = 120 then M else up (up (up M 88 30 (M 88 30 + 1)) 114 (M 88 31) c) 88 31 (M 88 31 + 1)
set_option maxHeartbeats 4000000 in
theorem k_Mo_say (l : Launch) (n : Nat) (M : Mem) (hn : 117 ≤ n) (c : Int) (hc : 0 ≤ M 88 31 ∧ M 88 31 ≤ M 88 30 ∧ M 88 30 ≤ 120) : AF l m_Mo_say 1 [.inr 88, .inl c] n M (some (.inl (if M 88 30 = 120 then -5 else 0))) (mSay M c) := by
  refine AM_intro (by decide) (Nat.le_of_ble_eq_true rfl) (fun X b0 D hC _ => ?_)
  show AW X b0 D true 0 0 _ n M 0 [some (.inr 88), some (.inl c)] []
  refine A_ald0 hC d_Mo_say_0 ?_
  refine A_getI (kI := 30) hC d_Mo_say_1 fF_Mo_169 ⟨by decide, rfl⟩ rfl ly_88 (by omega) ?_
  refine A_bipush hC d_Mo_say_4 (by decide) (by decide) ?_
  refine A_icmpne (tgt := 12) hC d_Mo_say_6 (by decide) (fun h6 => ?_) (fun h6 => ?_)
  · refine A_ald0 hC d_Mo_say_12 ?_
    refine A_dup hC d_Mo_say_13 ?_
    refine A_getI (kI := 30) hC d_Mo_say_14 fF_Mo_169 ⟨by decide, rfl⟩ rfl ly_88 (by omega) ?_
    refine A_iconst hC d_Mo_say_17 (by decide) ?_
    refine A_iadd hC d_Mo_say_18 (by omega) ?_
    refine A_putI (kI := 30) hC d_Mo_say_19 fP_Mo_169 ⟨by decide, rfl⟩ rfl ly_88 (by omega) (fun _ => by decide) ?_
    refine A_ald0 hC d_Mo_say_22 ?_
    refine A_getCR (v := 114) hC d_Mo_say_23 fF_Mo_90 ⟨by decide, rfl⟩ ly_88 (by omega) ⟨rfl, by decide⟩ cv_88_32 ?_
    refine A_ald0 hC d_Mo_say_26 ?_
    refine A_getIE (x := M 88 31) (kI := 31) hC d_Mo_say_27 fF_Mo_160 ⟨by decide, rfl⟩ rfl ly_88 (by omega) (by rw [up_nk (k := 30) (k' := 31) (by decide)]) ?_
    refine A_ild1 hC d_Mo_say_30 ?_
    refine A_iast hC d_Mo_say_31 ly_114 (by omega) (by omega) (fun _ => kk_i _) ?_
    refine A_ald0 hC d_Mo_say_32 ?_
    refine A_dup hC d_Mo_say_33 ?_
    refine A_getIE (x := M 88 31) (kI := 31) hC d_Mo_say_34 fF_Mo_160 ⟨by decide, rfl⟩ rfl ly_88 (by omega) (by rw [up_nc (c := 114) (c' := 88) (by decide), up_nk (k := 30) (k' := 31) (by decide)]) ?_
    refine A_iconst hC d_Mo_say_37 (by decide) ?_
    refine A_iadd hC d_Mo_say_38 (by omega) ?_
    refine A_putI (kI := 31) hC d_Mo_say_39 fP_Mo_160 ⟨by decide, rfl⟩ rfl ly_88 (by omega) (fun _ => by decide) ?_
    refine A_iconst hC d_Mo_say_42 (by decide) ?_
    refine A_iret hC d_Mo_say_43 rfl (Nat.le_refl _) (Nat.le_refl _) ?_
    exact ⟨fx_r (by split <;> omega), rfl, by unfold mSay; first | rw [if_pos (by omega)] | rw [if_neg (by omega)]⟩
  · refine A_bipush hC d_Mo_say_9 (by decide) (by decide) ?_
    refine A_iret hC d_Mo_say_11 rfl (Nat.le_refl _) (Nat.le_refl _) ?_
    exact ⟨fx_r (by split <;> omega), rfl, by unfold mSay; first | rw [if_pos (by omega)] | rw [if_neg (by omega)]⟩
set_option maxHeartbeats 4000000 in
theorem k_Mo_entry (l : Launch) (n : Nat) (M : Mem) (hn : 117 ≤ n) (j : Int) (hj : 0 ≤ j ∧ j ≤ 39) (ha : 0 ≤ M 110 j ∧ M 110 j ≤ 10) : AF l m_Mo_entry 1 [.inr 88, .inl j] n M (some (.inl (10 * j + M 110 j))) M := by
  refine AM_intro (by decide) (Nat.le_of_ble_eq_true rfl) (fun X b0 D hC _ => ?_)
  show AW X b0 D true 0 0 _ n M 0 [some (.inr 88), some (.inl j)] []
  refine A_bipush hC d_Mo_entry_0 (by decide) (by decide) ?_
  refine A_ild1 hC d_Mo_entry_2 ?_
  refine A_imul hC d_Mo_entry_3 (by omega) ?_
  refine A_ald0 hC d_Mo_entry_4 ?_
  refine A_getCR (v := 110) hC d_Mo_entry_5 fF_Mo_78 ⟨by decide, rfl⟩ ly_88 (by omega) ⟨rfl, by decide⟩ cv_88_26 ?_
  refine A_ild1 hC d_Mo_entry_8 ?_
  refine A_iald hC d_Mo_entry_9 ly_110 (by omega) (by omega) ?_
  refine A_iadd hC d_Mo_entry_10 (by omega) ?_
  refine A_iret hC d_Mo_entry_11 rfl (Nat.le_refl _) (Nat.le_refl _) ?_
  exact ⟨rfl, rfl, rfl⟩
end
section
/-- k tokens from i on, with d SETS open: are they the rest of a GOOD text? -/
def gdF (op : Int → Int) : Nat → Int → Int → Int
  | 0, _, d => if d = 0 then 1 else 0
  | k + 1, i, d => if d = 0 then 0 else if op i = 6 then gdF op k (i + 1) (d - 1) else if opnP (op i) then (if d = 4 then 0 else gdF op k (i + 1) (d + 1)) else gdF op k (i + 1) d
theorem gdF_01 (op : Int → Int) : ∀ (k : Nat) (i d : Int), gdF op k i d = 0 ∨ gdF op k i d = 1
  | 0, _, d => by unfold gdF; split <;> simp
  | k + 1, i, d => by
    unfold gdF
    repeat (first | exact gdF_01 op k _ _ | (left; rfl) | split)
def gd (op len : Int → Int) (t : Int) : Int := gdF op (len t).toNat (16 * t) 1
set_option maxHeartbeats 4000000 in
theorem k_Te_isGood (l : Launch) (n : Nat) (M : Mem) (hn : 117 ≤ n) (hT : TX M) (t : Int) (ht : 0 ≤ t ∧ t ≤ 3) : AF l m_Te_isGood 2 [.inr 11, .inl t] n M (some (.inl (gd (M 13) (M 12) t))) M := by
  refine AM_intro (by decide) (Nat.le_of_ble_eq_true rfl) (fun X b0 D hC _ => ?_)
  show AW X b0 D true 0 0 (fx_Q X b0 D true 0 0 (fun r' n' M' => r' = (some (.inl (gd (M 13) (M 12) t))) ∧ n' = n ∧ M' = M)) n M 0 [some (.inr 11), some (.inl t), none, none, none] []
  have hT1 := hT t
  have loop : ∀ (k : Nat) (i d : Int) (x4 : Option AV), (k : Int) = M 12 t - i → 0 ≤ i → 0 ≤ d ∧ d ≤ 4 → gdF (M 13) k (16 * t + i) d = gd (M 13) (M 12) t → AW X b0 D true 0 0 (fx_Q X b0 D true 0 0 (fun r' n' M' => r' = (some (.inl (gd (M 13) (M 12) t))) ∧ n' = n ∧ M' = M)) n M 4 [some (.inr 11), some (.inl t), some (.inl d), some (.inl i), x4] [] := by
    intro k
    induction k with
    | zero =>
      intro i d x4 hk hi hd hg
      unfold gdF at hg
      refine A_ild3 hC d_Te_isGood_4 ?_
      refine A_ald0 hC d_Te_isGood_5 ?_
      refine A_getCR (v := 12) hC d_Te_isGood_6 fF_Te_9 ⟨by decide, rfl⟩ ly_11 (by omega) ⟨rfl, by decide⟩ cv_11_0 ?_
      refine A_ild1 hC d_Te_isGood_9 ?_
      refine A_iald hC d_Te_isGood_10 ly_12 (by omega) (by omega) ?_
      refine A_icmpge (tgt := 70) hC d_Te_isGood_11 (by decide) (fun h11 => ?_) (fun h11 => ?_)
      · refine A_ild2 hC d_Te_isGood_70 ?_
        refine A_ifne (tgt := 78) hC d_Te_isGood_71 (by decide) (fun h71 => ?_) (fun h71 => ?_)
        · refine A_iconst hC d_Te_isGood_78 (by decide) ?_
          refine A_zret hC d_Te_isGood_79 rfl (Nat.le_refl _) (Nat.le_refl _) (by first | decide | omega) ?_
          exact ⟨fx_r (by rw [← hg]; split <;> omega), rfl, rfl⟩
        · refine A_iconst hC d_Te_isGood_74 (by decide) ?_
          refine A_goto (tgt := 79) hC d_Te_isGood_75 (by decide) ?_
          refine A_zret hC d_Te_isGood_79 rfl (Nat.le_refl _) (Nat.le_refl _) (by first | decide | omega) ?_
          exact ⟨fx_r (by rw [← hg]; split <;> omega), rfl, rfl⟩
      · exact absurd h11 (by omega)
    | succ k ih =>
      intro i d x4 hk hi hd hg
      unfold gdF at hg
      refine A_ild3 hC d_Te_isGood_4 ?_
      refine A_ald0 hC d_Te_isGood_5 ?_
      refine A_getCR (v := 12) hC d_Te_isGood_6 fF_Te_9 ⟨by decide, rfl⟩ ly_11 (by omega) ⟨rfl, by decide⟩ cv_11_0 ?_
      refine A_ild1 hC d_Te_isGood_9 ?_
      refine A_iald hC d_Te_isGood_10 ly_12 (by omega) (by omega) ?_
      refine A_icmpge (tgt := 70) hC d_Te_isGood_11 (by decide) (fun h11 => ?_) (fun h11 => ?_)
      · exact absurd h11 (by omega)
      · refine A_ild2 hC d_Te_isGood_14 ?_
        refine A_ifne (tgt := 20) hC d_Te_isGood_15 (by decide) (fun h15 => ?_) (fun h15 => ?_)
        · refine A_ald0 hC d_Te_isGood_20 ?_
          refine A_getCR (v := 13) hC d_Te_isGood_21 fF_Te_15 ⟨by decide, rfl⟩ ly_11 (by omega) ⟨rfl, by decide⟩ cv_11_1 ?_
          refine A_ild1 hC d_Te_isGood_24 ?_
          refine A_bipush hC d_Te_isGood_25 (by decide) (by decide) ?_
          refine A_imul hC d_Te_isGood_27 (by omega) ?_
          refine A_ild3 hC d_Te_isGood_28 ?_
          refine A_iadd hC d_Te_isGood_29 (by omega) ?_
          refine A_iald hC d_Te_isGood_30 ly_13 (by omega) (by omega) ?_
          refine A_eqi (show M 13 (t * 16 + i) = M 13 (16 * t + i) by rw [Int.mul_comm]) ?_
          refine A_ist4 hC d_Te_isGood_31 ?_
          refine A_ild4 hC d_Te_isGood_33 ?_
          refine A_bipush hC d_Te_isGood_35 (by decide) (by decide) ?_
          refine A_icmpne (tgt := 46) hC d_Te_isGood_37 (by decide) (fun h37 => ?_) (fun h37 => ?_)
          · refine A_ild4 hC d_Te_isGood_46 ?_
            refine A_SNF1 (as := [.inl (M 13 (16 * t + i))]) hC d_Te_isGood_48 mv_G_hasSetBehind lk_Te_24 (by decide) (k_G_hasSetBehind l n M hn (M 13 (16 * t + i))) rfl rfl (Nat.le_of_ble_eq_true rfl) ⟨Nat.zero_le _, Nat.zero_le _⟩ rfl ?_
            refine A_ifeq (tgt := 57) hC d_Te_isGood_51 (by decide) (fun h51 => ?_) (fun h51 => ?_)
            · refine A_ild2 hC d_Te_isGood_57 ?_
              refine A_iconst hC d_Te_isGood_58 (by decide) ?_
              refine A_icmple (tgt := 64) hC d_Te_isGood_59 (by decide) (fun h59 => ?_) (fun h59 => ?_)
              · refine A_iinc3 hC d_Te_isGood_64 (by omega) ?_
                refine A_goto (tgt := 4) hC d_Te_isGood_67 (by decide) ?_
                exact ih (i + 1) (d) _ (by omega) (by omega) (by omega) (by rw [if_neg (by omega), if_neg (by omega), if_neg (by omega)] at hg; rw [show 16 * t + (i + 1) = 16 * t + i + 1 by omega]; first | exact hg | (rw [show d = d - 1 by omega]; exact hg))
              · refine A_iconst hC d_Te_isGood_62 (by decide) ?_
                refine A_zret hC d_Te_isGood_63 rfl (Nat.le_refl _) (Nat.le_refl _) (by first | decide | omega) ?_
                exact ⟨fx_r (by rw [← hg]; repeat (first | rfl | omega | split)), rfl, rfl⟩
            · refine A_iinc2 hC d_Te_isGood_54 (by omega) ?_
              refine A_ild2 hC d_Te_isGood_57 ?_
              refine A_iconst hC d_Te_isGood_58 (by decide) ?_
              refine A_icmple (tgt := 64) hC d_Te_isGood_59 (by decide) (fun h59 => ?_) (fun h59 => ?_)
              · refine A_iinc3 hC d_Te_isGood_64 (by omega) ?_
                refine A_goto (tgt := 4) hC d_Te_isGood_67 (by decide) ?_
                exact ih (i + 1) (d + 1) _ (by omega) (by omega) (by omega) (by rw [if_neg (by omega), if_neg (by omega), if_pos (by omega), if_neg (by omega)] at hg; rw [show 16 * t + (i + 1) = 16 * t + i + 1 by omega]; first | exact hg | (rw [show d + 1 = d - 1 by omega]; exact hg))
              · refine A_iconst hC d_Te_isGood_62 (by decide) ?_
                refine A_zret hC d_Te_isGood_63 rfl (Nat.le_refl _) (Nat.le_refl _) (by first | decide | omega) ?_
                exact ⟨fx_r (by rw [← hg]; repeat (first | rfl | omega | split)), rfl, rfl⟩
          · refine A_iinc2 hC d_Te_isGood_40 (by omega) ?_
            refine A_goto (tgt := 57) hC d_Te_isGood_43 (by decide) ?_
            refine A_ild2 hC d_Te_isGood_57 ?_
            refine A_iconst hC d_Te_isGood_58 (by decide) ?_
            refine A_icmple (tgt := 64) hC d_Te_isGood_59 (by decide) (fun h59 => ?_) (fun h59 => ?_)
            · refine A_iinc3 hC d_Te_isGood_64 (by omega) ?_
              refine A_goto (tgt := 4) hC d_Te_isGood_67 (by decide) ?_
              exact ih (i + 1) (d + (-1)) _ (by omega) (by omega) (by omega) (by rw [if_neg (by omega), if_pos (by omega)] at hg; rw [show 16 * t + (i + 1) = 16 * t + i + 1 by omega]; first | exact hg | (rw [show d + (-1) = d - 1 by omega]; exact hg))
            · refine A_iconst hC d_Te_isGood_62 (by decide) ?_
              refine A_zret hC d_Te_isGood_63 rfl (Nat.le_refl _) (Nat.le_refl _) (by first | decide | omega) ?_
              exact ⟨fx_r (by rw [← hg]; repeat (first | rfl | omega | split)), rfl, rfl⟩
        · refine A_iconst hC d_Te_isGood_18 (by decide) ?_
          refine A_zret hC d_Te_isGood_19 rfl (Nat.le_refl _) (Nat.le_refl _) (by first | decide | omega) ?_
          exact ⟨fx_r (by rw [← hg]; repeat (first | rfl | omega | split)), rfl, rfl⟩
  refine A_iconst hC d_Te_isGood_0 (by decide) ?_
  refine A_ist2 hC d_Te_isGood_1 ?_
  refine A_iconst hC d_Te_isGood_2 (by decide) ?_
  refine A_ist3 hC d_Te_isGood_3 ?_
  exact loop (M 12 t).toNat 0 1 none (by omega) (by omega) (by omega) (by rw [Int.add_zero]; rfl)
set_option maxHeartbeats 4000000 in
theorem k_Mo_good (l : Launch) (n : Nat) (M : Mem) (hn : 117 ≤ n) (hB : MB M) (t : Int) (ht : 0 ≤ t ∧ t ≤ 3) : AF l m_Mo_good 2 [.inr 88, .inl t] n M (some (.inl (gd (M 96) (M 95) t))) M := by
  refine AM_intro (by decide) (Nat.le_of_ble_eq_true rfl) (fun X b0 D hC _ => ?_)
  show AW X b0 D true 0 0 (fx_Q X b0 D true 0 0 (fun r' n' M' => r' = (some (.inl (gd (M 96) (M 95) t))) ∧ n' = n ∧ M' = M)) n M 0 [some (.inr 88), some (.inl t), none, none] []
  have hB6 := hB.2.2.2.2.2 t
  have loop : ∀ (k : Nat) (i d : Int), (k : Int) = 16 * t + M 95 t - i → 16 * t ≤ i → 0 ≤ d ∧ d ≤ 4 → gdF (M 96) k i d = gd (M 96) (M 95) t → AW X b0 D true 0 0 (fx_Q X b0 D true 0 0 (fun r' n' M' => r' = (some (.inl (gd (M 96) (M 95) t))) ∧ n' = n ∧ M' = M)) n M 7 [some (.inr 88), some (.inl t), some (.inl d), some (.inl i)] [] := by
    intro k
    induction k with
    | zero =>
      intro i d hk hi hd hg
      unfold gdF at hg
      refine A_ild3 hC d_Mo_good_7 ?_
      refine A_bipush hC d_Mo_good_8 (by decide) (by decide) ?_
      refine A_ild1 hC d_Mo_good_10 ?_
      refine A_imul hC d_Mo_good_11 (by omega) ?_
      refine A_ald0 hC d_Mo_good_12 ?_
      refine A_getCR (v := 95) hC d_Mo_good_13 fF_Mo_28 ⟨by decide, rfl⟩ ly_88 (by omega) ⟨rfl, by decide⟩ cv_88_8 ?_
      refine A_ild1 hC d_Mo_good_16 ?_
      refine A_iald hC d_Mo_good_17 ly_95 (by omega) (by omega) ?_
      refine A_iadd hC d_Mo_good_18 (by omega) ?_
      refine A_icmpge (tgt := 72) hC d_Mo_good_19 (by decide) (fun h19 => ?_) (fun h19 => ?_)
      · refine A_ild2 hC d_Mo_good_72 ?_
        refine A_ifne (tgt := 80) hC d_Mo_good_73 (by decide) (fun h73 => ?_) (fun h73 => ?_)
        · refine A_iconst hC d_Mo_good_80 (by decide) ?_
          refine A_zret hC d_Mo_good_81 rfl (Nat.le_refl _) (Nat.le_refl _) (by first | decide | omega) ?_
          exact ⟨fx_r (by rw [← hg]; split <;> omega), rfl, rfl⟩
        · refine A_iconst hC d_Mo_good_76 (by decide) ?_
          refine A_goto (tgt := 81) hC d_Mo_good_77 (by decide) ?_
          refine A_zret hC d_Mo_good_81 rfl (Nat.le_refl _) (Nat.le_refl _) (by first | decide | omega) ?_
          exact ⟨fx_r (by rw [← hg]; split <;> omega), rfl, rfl⟩
      · exact absurd h19 (by omega)
    | succ k ih =>
      intro i d hk hi hd hg
      unfold gdF at hg
      refine A_ild3 hC d_Mo_good_7 ?_
      refine A_bipush hC d_Mo_good_8 (by decide) (by decide) ?_
      refine A_ild1 hC d_Mo_good_10 ?_
      refine A_imul hC d_Mo_good_11 (by omega) ?_
      refine A_ald0 hC d_Mo_good_12 ?_
      refine A_getCR (v := 95) hC d_Mo_good_13 fF_Mo_28 ⟨by decide, rfl⟩ ly_88 (by omega) ⟨rfl, by decide⟩ cv_88_8 ?_
      refine A_ild1 hC d_Mo_good_16 ?_
      refine A_iald hC d_Mo_good_17 ly_95 (by omega) (by omega) ?_
      refine A_iadd hC d_Mo_good_18 (by omega) ?_
      refine A_icmpge (tgt := 72) hC d_Mo_good_19 (by decide) (fun h19 => ?_) (fun h19 => ?_)
      · exact absurd h19 (by omega)
      · refine A_ild2 hC d_Mo_good_22 ?_
        refine A_ifeq (tgt := 39) hC d_Mo_good_23 (by decide) (fun h23 => ?_) (fun h23 => ?_)
        · refine A_iconst hC d_Mo_good_39 (by decide) ?_
          refine A_zret hC d_Mo_good_40 rfl (Nat.le_refl _) (Nat.le_refl _) (by first | decide | omega) ?_
          exact ⟨fx_r (by rw [← hg]; repeat (first | rfl | omega | split)), rfl, rfl⟩
        · refine A_ald0 hC d_Mo_good_26 ?_
          refine A_ild3 hC d_Mo_good_27 ?_
          refine A_VF1 (as := [.inl i]) hC d_Mo_good_28 mv_Mo_opens lk_Mo_120 (by decide) sel_Mo_opens hq_Mo ly_88 (by omega) (k_Mo_opens l n M hn i (by omega)) rfl rfl (Nat.le_of_ble_eq_true rfl) ⟨Nat.zero_le _, Nat.zero_le _⟩ rfl ?_
          refine A_ifeq (tgt := 41) hC d_Mo_good_31 (by decide) (fun h31 => ?_) (fun h31 => ?_)
          · refine A_ald0 hC d_Mo_good_41 ?_
            refine A_ild3 hC d_Mo_good_42 ?_
            refine A_VF1 (as := [.inl i]) hC d_Mo_good_43 mv_Mo_opens lk_Mo_120 (by decide) sel_Mo_opens hq_Mo ly_88 (by omega) (k_Mo_opens l n M hn i (by omega)) rfl rfl (Nat.le_of_ble_eq_true rfl) ⟨Nat.zero_le _, Nat.zero_le _⟩ rfl ?_
            refine A_ifeq (tgt := 52) hC d_Mo_good_46 (by decide) (fun h46 => ?_) (fun h46 => ?_)
            · refine A_ald0 hC d_Mo_good_52 ?_
              refine A_getCR (v := 96) hC d_Mo_good_53 fF_Mo_31 ⟨by decide, rfl⟩ ly_88 (by omega) ⟨rfl, by decide⟩ cv_88_9 ?_
              refine A_ild3 hC d_Mo_good_56 ?_
              refine A_iald hC d_Mo_good_57 ly_96 (by omega) (by omega) ?_
              refine A_bipush hC d_Mo_good_58 (by decide) (by decide) ?_
              refine A_icmpne (tgt := 66) hC d_Mo_good_60 (by decide) (fun h60 => ?_) (fun h60 => ?_)
              · refine A_iinc3 hC d_Mo_good_66 (by omega) ?_
                refine A_goto (tgt := 7) hC d_Mo_good_69 (by decide) ?_
                exact ih (i + 1) (d) (by omega) (by omega) (by omega) (by rw [← hg]; repeat (first | omega | rfl | (congr 1; omega) | split))
              · refine A_iinc2 hC d_Mo_good_63 (by omega) ?_
                refine A_iinc3 hC d_Mo_good_66 (by omega) ?_
                refine A_goto (tgt := 7) hC d_Mo_good_69 (by decide) ?_
                exact ih (i + 1) (d + (-1)) (by omega) (by omega) (by omega) (by rw [← hg]; repeat (first | omega | rfl | (congr 1; omega) | split))
            · refine A_iinc2 hC d_Mo_good_49 (by omega) ?_
              refine A_ald0 hC d_Mo_good_52 ?_
              refine A_getCR (v := 96) hC d_Mo_good_53 fF_Mo_31 ⟨by decide, rfl⟩ ly_88 (by omega) ⟨rfl, by decide⟩ cv_88_9 ?_
              refine A_ild3 hC d_Mo_good_56 ?_
              refine A_iald hC d_Mo_good_57 ly_96 (by omega) (by omega) ?_
              refine A_bipush hC d_Mo_good_58 (by decide) (by decide) ?_
              refine A_icmpne (tgt := 66) hC d_Mo_good_60 (by decide) (fun h60 => ?_) (fun h60 => ?_)
              · refine A_iinc3 hC d_Mo_good_66 (by omega) ?_
                refine A_goto (tgt := 7) hC d_Mo_good_69 (by decide) ?_
                exact ih (i + 1) (d + 1) (by omega) (by omega) (by omega) (by rw [← hg]; repeat (first | omega | rfl | (congr 1; omega) | split))
              · refine A_iinc2 hC d_Mo_good_63 (by omega) ?_
                refine A_iinc3 hC d_Mo_good_66 (by omega) ?_
                refine A_goto (tgt := 7) hC d_Mo_good_69 (by decide) ?_
                exact ih (i + 1) (d + 1 + (-1)) (by omega) (by omega) (by omega) (by rw [← hg]; repeat (first | omega | rfl | (congr 1; omega) | split))
          · refine A_ild2 hC d_Mo_good_34 ?_
            refine A_iconst hC d_Mo_good_35 (by decide) ?_
            refine A_icmpne (tgt := 41) hC d_Mo_good_36 (by decide) (fun h36 => ?_) (fun h36 => ?_)
            · refine A_ald0 hC d_Mo_good_41 ?_
              refine A_ild3 hC d_Mo_good_42 ?_
              refine A_VF1 (as := [.inl i]) hC d_Mo_good_43 mv_Mo_opens lk_Mo_120 (by decide) sel_Mo_opens hq_Mo ly_88 (by omega) (k_Mo_opens l n M hn i (by omega)) rfl rfl (Nat.le_of_ble_eq_true rfl) ⟨Nat.zero_le _, Nat.zero_le _⟩ rfl ?_
              refine A_ifeq (tgt := 52) hC d_Mo_good_46 (by decide) (fun h46 => ?_) (fun h46 => ?_)
              · refine A_ald0 hC d_Mo_good_52 ?_
                refine A_getCR (v := 96) hC d_Mo_good_53 fF_Mo_31 ⟨by decide, rfl⟩ ly_88 (by omega) ⟨rfl, by decide⟩ cv_88_9 ?_
                refine A_ild3 hC d_Mo_good_56 ?_
                refine A_iald hC d_Mo_good_57 ly_96 (by omega) (by omega) ?_
                refine A_bipush hC d_Mo_good_58 (by decide) (by decide) ?_
                refine A_icmpne (tgt := 66) hC d_Mo_good_60 (by decide) (fun h60 => ?_) (fun h60 => ?_)
                · refine A_iinc3 hC d_Mo_good_66 (by omega) ?_
                  refine A_goto (tgt := 7) hC d_Mo_good_69 (by decide) ?_
                  exact ih (i + 1) (d) (by omega) (by omega) (by omega) (by rw [← hg]; repeat (first | omega | rfl | (congr 1; omega) | split))
                · refine A_iinc2 hC d_Mo_good_63 (by omega) ?_
                  refine A_iinc3 hC d_Mo_good_66 (by omega) ?_
                  refine A_goto (tgt := 7) hC d_Mo_good_69 (by decide) ?_
                  exact ih (i + 1) (d + (-1)) (by omega) (by omega) (by omega) (by rw [← hg]; repeat (first | omega | rfl | (congr 1; omega) | split))
              · refine A_iinc2 hC d_Mo_good_49 (by omega) ?_
                refine A_ald0 hC d_Mo_good_52 ?_
                refine A_getCR (v := 96) hC d_Mo_good_53 fF_Mo_31 ⟨by decide, rfl⟩ ly_88 (by omega) ⟨rfl, by decide⟩ cv_88_9 ?_
                refine A_ild3 hC d_Mo_good_56 ?_
                refine A_iald hC d_Mo_good_57 ly_96 (by omega) (by omega) ?_
                refine A_bipush hC d_Mo_good_58 (by decide) (by decide) ?_
                refine A_icmpne (tgt := 66) hC d_Mo_good_60 (by decide) (fun h60 => ?_) (fun h60 => ?_)
                · refine A_iinc3 hC d_Mo_good_66 (by omega) ?_
                  refine A_goto (tgt := 7) hC d_Mo_good_69 (by decide) ?_
                  exact ih (i + 1) (d + 1) (by omega) (by omega) (by omega) (by rw [← hg]; repeat (first | omega | rfl | (congr 1; omega) | split))
                · refine A_iinc2 hC d_Mo_good_63 (by omega) ?_
                  refine A_iinc3 hC d_Mo_good_66 (by omega) ?_
                  refine A_goto (tgt := 7) hC d_Mo_good_69 (by decide) ?_
                  exact ih (i + 1) (d + 1 + (-1)) (by omega) (by omega) (by omega) (by rw [← hg]; repeat (first | omega | rfl | (congr 1; omega) | split))
            · refine A_iconst hC d_Mo_good_39 (by decide) ?_
              refine A_zret hC d_Mo_good_40 rfl (Nat.le_refl _) (Nat.le_refl _) (by first | decide | omega) ?_
              exact ⟨fx_r (by rw [← hg]; repeat (first | rfl | omega | split)), rfl, rfl⟩
  refine A_iconst hC d_Mo_good_0 (by decide) ?_
  refine A_ist2 hC d_Mo_good_1 ?_
  refine A_bipush hC d_Mo_good_2 (by decide) (by decide) ?_
  refine A_ild1 hC d_Mo_good_4 ?_
  refine A_imul hC d_Mo_good_5 (by omega) ?_
  refine A_ist3 hC d_Mo_good_6 ?_
  exact loop (M 95 t).toNat (16 * t) 1 (by omega) (by omega) (by omega) rfl
end
section
theorem SC_up {M : Mem} {c k v : Int} (h : SC M) (h1 : c ≠ 1) (h2 : c ≠ 2) : SC (up M c k v) := by
  unfold SC
  simp only [up_nc (Ne.symm h1), up_nc (Ne.symm h2)]
  exact h
def kO (M : Mem) (t f : Int) : Int := if hasF M t f then M 3 (t * 4 + f) else -1
def tO (M : Mem) (t f : Int) : Int := if hasF M t f then M 4 (t * 4 + f) else 5
def rO (M : Mem) (t f : Int) : Int := if hasF M t f ∧ ¬ M 5 (t * 4 + f) = 0 then 1 else 0
def tkS (M : Mem) (k s : Int) : Mem := up (up (up (up (up (up M (20 + M 17 4) 1 (M 13 k)) (20 + M 17 4) 2 (M 14 k)) (20 + M 17 4) 3 (M 15 k)) (20 + M 17 4) 4 s) (20 + M 17 4) 6 (M 17 4)) 17 4 (M 17 4 + 1)
set_option maxHeartbeats 4000000 in
theorem k_Pl_takeStep (l : Launch) (n : Nat) (M : Mem) (hn : 117 ≤ n) (k s : Int) (hk : 0 ≤ k ∧ k ≤ 63) (hz : 0 ≤ M 17 4 ∧ M 17 4 ≤ 60) : AF l m_Pl_takeStep 1 [.inr 17, .inl k, .inr s] n M (some (.inr (20 + M 17 4))) (tkS M k s) := by
  refine AM_intro (by decide) (Nat.le_of_ble_eq_true rfl) (fun X b0 D hC _ => ?_)
  show AW X b0 D true 0 0 _ n M 0 [some (.inr 17), some (.inl k), some (.inr s), none] []
  refine A_ald0 hC d_Pl_takeStep_0 ?_
  refine A_getCR (v := 18) hC d_Pl_takeStep_1 fF_Pl_11 ⟨by decide, rfl⟩ ly_17 (by omega) ⟨rfl, by decide⟩ cv_17_2 ?_
  refine A_ald0 hC d_Pl_takeStep_4 ?_
  refine A_getI (kI := 4) hC d_Pl_takeStep_5 fF_Pl_52 ⟨by decide, rfl⟩ rfl ly_17 (by omega) ?_
  refine A_aaldC (v := 20 + (M 17 4)) hC d_Pl_takeStep_8 ly_18 (by omega) (by omega) ⟨rfl, kk_st (by omega)⟩ (by rw [cv_st]; try omega) ?_
  refine A_ast3 hC d_Pl_takeStep_9 ?_
  refine A_ald3 hC d_Pl_takeStep_10 ?_
  refine A_ald0 hC d_Pl_takeStep_11 ?_
  refine A_getCR (v := 11) hC d_Pl_takeStep_12 fF_Pl_29 ⟨by decide, rfl⟩ ly_17 (by omega) ⟨rfl, by decide⟩ cv_17_1 ?_
  refine A_getCR (v := 13) hC d_Pl_takeStep_15 fF_Pl_87 ⟨by decide, rfl⟩ ly_11 (by omega) ⟨rfl, by decide⟩ cv_11_1 ?_
  refine A_ild1 hC d_Pl_takeStep_18 ?_
  refine A_iald hC d_Pl_takeStep_19 ly_13 (by omega) (by omega) ?_
  refine A_putI (kI := 1) hC d_Pl_takeStep_20 fP_Pl_36 ⟨by decide, rfl⟩ rfl (ly_S (by omega)) (by omega) (fun _ => by decide) ?_
  refine A_ald3 hC d_Pl_takeStep_23 ?_
  refine A_ald0 hC d_Pl_takeStep_24 ?_
  refine A_getCR (v := 11) hC d_Pl_takeStep_25 fF_Pl_29 ⟨by decide, rfl⟩ ly_17 (by omega) ⟨rfl, by decide⟩ cv_17_1 ?_
  refine A_getCR (v := 14) hC d_Pl_takeStep_28 fF_Pl_90 ⟨by decide, rfl⟩ ly_11 (by omega) ⟨rfl, by decide⟩ cv_11_2 ?_
  refine A_ild1 hC d_Pl_takeStep_31 ?_
  refine A_ialdE (x := M 14 k) hC d_Pl_takeStep_32 ly_14 (by omega) (by omega) (by rw [up_nc (c := 20 + (M 17 4)) (c' := 14) (by omega)]) ?_
  refine A_putI (kI := 2) hC d_Pl_takeStep_33 fP_Pl_75 ⟨by decide, rfl⟩ rfl (ly_S (by omega)) (by omega) (fun _ => by decide) ?_
  refine A_ald3 hC d_Pl_takeStep_36 ?_
  refine A_ald0 hC d_Pl_takeStep_37 ?_
  refine A_getCR (v := 11) hC d_Pl_takeStep_38 fF_Pl_29 ⟨by decide, rfl⟩ ly_17 (by omega) ⟨rfl, by decide⟩ cv_17_1 ?_
  refine A_getCR (v := 15) hC d_Pl_takeStep_41 fF_Pl_93 ⟨by decide, rfl⟩ ly_11 (by omega) ⟨rfl, by decide⟩ cv_11_3 ?_
  refine A_ild1 hC d_Pl_takeStep_44 ?_
  refine A_ialdE (x := M 15 k) hC d_Pl_takeStep_45 ly_15 (by omega) (by omega) (by rw [up_nc (c := 20 + (M 17 4)) (c' := 15) (by omega), up_nc (c := 20 + (M 17 4)) (c' := 15) (by omega)]) ?_
  refine A_putI (kI := 3) hC d_Pl_takeStep_46 fP_Pl_96 ⟨by decide, rfl⟩ rfl (ly_S (by omega)) (by omega) (fun _ => by decide) ?_
  refine A_ald3 hC d_Pl_takeStep_49 ?_
  refine A_ald2 hC d_Pl_takeStep_50 ?_
  refine A_putR (kI := 4) hC d_Pl_takeStep_51 fP_Pl_39 ⟨by decide, rfl⟩ rfl (ly_S (by omega)) (by omega) (fun _ => by decide) ?_
  refine A_ald3 hC d_Pl_takeStep_54 ?_
  refine A_ald3 hC d_Pl_takeStep_55 ?_
  refine A_getCI (v := (M 17 4)) hC d_Pl_takeStep_56 fF_Pl_78 ⟨by decide, rfl⟩ (ly_S (by omega)) (by omega) ⟨rfl, by decide⟩ (by rw [cv_S (by omega)]; try omega) ?_
  refine A_putI (kI := 6) hC d_Pl_takeStep_59 fP_Pl_81 ⟨by decide, rfl⟩ rfl (ly_S (by omega)) (by omega) (fun _ => by decide) ?_
  refine A_ald0 hC d_Pl_takeStep_62 ?_
  refine A_dup hC d_Pl_takeStep_63 ?_
  refine A_getIE (x := M 17 4) (kI := 4) hC d_Pl_takeStep_64 fF_Pl_52 ⟨by decide, rfl⟩ rfl ly_17 (by omega) (by rw [up_nc (c := 20 + (M 17 4)) (c' := 17) (by omega), up_nc (c := 20 + (M 17 4)) (c' := 17) (by omega), up_nc (c := 20 + (M 17 4)) (c' := 17) (by omega), up_nc (c := 20 + (M 17 4)) (c' := 17) (by omega), up_nc (c := 20 + (M 17 4)) (c' := 17) (by omega)]) ?_
  refine A_iconst hC d_Pl_takeStep_67 (by decide) ?_
  refine A_iadd hC d_Pl_takeStep_68 (by omega) ?_
  refine A_putI (kI := 4) hC d_Pl_takeStep_69 fP_Pl_52 ⟨by decide, rfl⟩ rfl ly_17 (by omega) (fun _ => by decide) ?_
  refine A_ald3 hC d_Pl_takeStep_72 ?_
  refine A_aret hC d_Pl_takeStep_73 rfl (Nat.le_refl _) (Nat.le_refl _) ?_
  exact ⟨rfl, rfl, rfl⟩
def fnF (M : Mem) (s e : Int) : Mem := up (up M s 7 (kO M e (M s 3))) s 8 (rO M e (M s 3))
abbrev fnR (M : Mem) (s e : Int) : Int := if (M s 1 = 0 ∧ kO M e (M s 3) = 0) ∨ (¬ M s 1 = 0 ∧ (kO M e (M s 3) = 1 ∨ kO M e (M s 3) = 2)) then 1 else 0
set_option maxHeartbeats 4000000 in
theorem k_Pl_findField (l : Launch) (n : Nat) (M : Mem) (hn : 117 ≤ n) (hS : SC M) (s e : Int) (hs : 20 ≤ s ∧ s < 81) : AF l m_Pl_findField 4 [.inr 17, .inr s, .inl e] n M (some (.inl (fnR M s e))) (fnF M s e) := by
  refine AM_intro (by decide) (Nat.le_of_ble_eq_true rfl) (fun X b0 D hC _ => ?_)
  show AW X b0 D true 0 0 _ n M 0 [some (.inr 17), some (.inr s), some (.inl e)] []
  refine A_ald1 hC d_Pl_findField_0 ?_
  refine A_ald0 hC d_Pl_findField_1 ?_
  refine A_getCR (v := 1) hC d_Pl_findField_2 fF_Pl_25 ⟨by decide, rfl⟩ ly_17 (by omega) ⟨rfl, by decide⟩ cv_17_0 ?_
  refine A_ild2 hC d_Pl_findField_5 ?_
  refine A_ald1 hC d_Pl_findField_6 ?_
  refine A_getI (kI := 3) hC d_Pl_findField_7 fF_Pl_96 ⟨by decide, rfl⟩ rfl (ly_S (by omega)) (by omega) ?_
  refine A_VF1 (as := [.inl e, .inl (M s 3)]) hC d_Pl_findField_10 mv_Sc_kindOf lk_Pl_107 (by decide) sel_Sc_kindOf hq_Sc ly_1 (by omega) (k_Sc_kindOf l n M hn hS e (M s 3)) rfl rfl (Nat.le_of_ble_eq_true rfl) ⟨Nat.zero_le _, Nat.zero_le _⟩ rfl ?_
  refine A_eqi (show _ = kO M e (M s 3) from rfl) ?_
  refine A_putI (kI := 7) hC d_Pl_findField_13 fP_Pl_111 ⟨by decide, rfl⟩ rfl (ly_S (by omega)) (by omega) (fun _ => by decide) ?_
  refine A_ald1 hC d_Pl_findField_16 ?_
  refine A_ald0 hC d_Pl_findField_17 ?_
  refine A_getCR (v := 1) hC d_Pl_findField_18 fF_Pl_25 ⟨by decide, rfl⟩ ly_17 (by omega) ⟨rfl, by decide⟩ cv_17_0 ?_
  refine A_ild2 hC d_Pl_findField_21 ?_
  refine A_ald1 hC d_Pl_findField_22 ?_
  refine A_getIE (x := M s 3) (kI := 3) hC d_Pl_findField_23 fF_Pl_96 ⟨by decide, rfl⟩ rfl (ly_S (by omega)) (by omega) (by rw [up_nk (k := 7) (k' := 3) (by decide)]) ?_
  refine A_VF1 (as := [.inl e, .inl (M s 3)]) hC d_Pl_findField_26 mv_Sc_isRequired lk_Pl_114 (by decide) sel_Sc_isRequired hq_Sc ly_1 (by omega) (k_Sc_isRequired l n (up M s 7 (kO M e (M s 3))) hn (SC_up hS (by omega) (by omega)) e (M s 3)) rfl rfl (Nat.le_of_ble_eq_true rfl) ⟨Nat.zero_le _, Nat.zero_le _⟩ rfl ?_
  refine A_eqi (b := rO M e (M s 3)) (by simp only [hasF, rO, up_nc (show (1 : Int) ≠ s by omega), up_nc (show (2 : Int) ≠ s by omega), up_nc (show (5 : Int) ≠ s by omega)]) ?_
  refine A_putZ (kI := 8) hC d_Pl_findField_29 fP_Pl_118 ⟨by decide, rfl⟩ rfl (ly_S (by omega)) (by omega) (fun _ => by decide) (by unfold rO; split <;> simp) ?_
  refine A_ald1 hC d_Pl_findField_32 ?_
  refine A_getIE (x := M s 1) (kI := 1) hC d_Pl_findField_33 fF_Pl_36 ⟨by decide, rfl⟩ rfl (ly_S (by omega)) (by omega) (by rw [up_nk (k := 8) (k' := 1) (by decide), up_nk (k := 7) (k' := 1) (by decide)]) ?_
  refine A_ifne (tgt := 52) hC d_Pl_findField_36 (by decide) (fun h36 => ?_) (fun h36 => ?_)
  · refine A_ald1 hC d_Pl_findField_52 ?_
    refine A_getIE (x := kO M e (M s 3)) (kI := 7) hC d_Pl_findField_53 fF_Pl_111 ⟨by decide, rfl⟩ rfl (ly_S (by omega)) (by omega) (by rw [up_nk (k := 8) (k' := 7) (by decide), up_eq]) ?_
    refine A_iconst hC d_Pl_findField_56 (by decide) ?_
    refine A_icmpeq (tgt := 68) hC d_Pl_findField_57 (by decide) (fun h57 => ?_) (fun h57 => ?_)
    · refine A_iconst hC d_Pl_findField_68 (by decide) ?_
      refine A_goto (tgt := 73) hC d_Pl_findField_69 (by decide) ?_
      refine A_zret hC d_Pl_findField_73 rfl (Nat.le_refl _) (Nat.le_refl _) (by first | decide | omega) ?_
      exact ⟨fx_r (by unfold fnR; split <;> omega), rfl, rfl⟩
    · refine A_ald1 hC d_Pl_findField_60 ?_
      refine A_getIE (x := kO M e (M s 3)) (kI := 7) hC d_Pl_findField_61 fF_Pl_111 ⟨by decide, rfl⟩ rfl (ly_S (by omega)) (by omega) (by rw [up_nk (k := 8) (k' := 7) (by decide), up_eq]) ?_
      refine A_iconst hC d_Pl_findField_64 (by decide) ?_
      refine A_icmpne (tgt := 72) hC d_Pl_findField_65 (by decide) (fun h65 => ?_) (fun h65 => ?_)
      · refine A_iconst hC d_Pl_findField_72 (by decide) ?_
        refine A_zret hC d_Pl_findField_73 rfl (Nat.le_refl _) (Nat.le_refl _) (by first | decide | omega) ?_
        exact ⟨fx_r (by unfold fnR; split <;> omega), rfl, rfl⟩
      · refine A_iconst hC d_Pl_findField_68 (by decide) ?_
        refine A_goto (tgt := 73) hC d_Pl_findField_69 (by decide) ?_
        refine A_zret hC d_Pl_findField_73 rfl (Nat.le_refl _) (Nat.le_refl _) (by first | decide | omega) ?_
        exact ⟨fx_r (by unfold fnR; split <;> omega), rfl, rfl⟩
  · refine A_ald1 hC d_Pl_findField_39 ?_
    refine A_getIE (x := kO M e (M s 3)) (kI := 7) hC d_Pl_findField_40 fF_Pl_111 ⟨by decide, rfl⟩ rfl (ly_S (by omega)) (by omega) (by rw [up_nk (k := 8) (k' := 7) (by decide), up_eq]) ?_
    refine A_ifne (tgt := 50) hC d_Pl_findField_43 (by decide) (fun h43 => ?_) (fun h43 => ?_)
    · refine A_iconst hC d_Pl_findField_50 (by decide) ?_
      refine A_zret hC d_Pl_findField_51 rfl (Nat.le_refl _) (Nat.le_refl _) (by first | decide | omega) ?_
      exact ⟨fx_r (by unfold fnR; split <;> omega), rfl, rfl⟩
    · refine A_iconst hC d_Pl_findField_46 (by decide) ?_
      refine A_goto (tgt := 51) hC d_Pl_findField_47 (by decide) ?_
      refine A_zret hC d_Pl_findField_51 rfl (Nat.le_refl _) (Nat.le_refl _) (by first | decide | omega) ?_
      exact ⟨fx_r (by unfold fnR; split <;> omega), rfl, rfl⟩
/-- is the token of step s right where the type e is expected? -/
def rtP (M : Mem) (s e : Int) : Prop := ((M s 1 = 0 ∨ M s 1 = 1) ∧ fnR M s e = 1) ∨ (M s 1 = 3 ∧ (0 ≤ M s 2 ∧ M s 2 < M 1 4) ∧ (e = M s 2 ∨ e = 5)) ∨ (M s 1 = 5 ∧ gd (M 13) (M 12) (M s 2) = 1 ∧ M 19 (M s 2) = 0) ∨ (¬ M s 1 = 0 ∧ ¬ M s 1 = 1 ∧ ¬ M s 1 = 3 ∧ ¬ M s 1 = 5)
noncomputable def rtR (M : Mem) (s e : Int) : Int := if M s 1 = 0 ∨ M s 1 = 1 then fnR M s e else if M s 1 = 3 then (if (0 ≤ M s 2 ∧ M s 2 < M 1 4) ∧ (e = M s 2 ∨ e = 5) then 1 else 0) else if M s 1 = 5 then (if ¬ gd (M 13) (M 12) (M s 2) = 0 ∧ M 19 (M s 2) = 0 then 1 else 0) else 1
def rtM (M : Mem) (s e : Int) : Mem := if M s 1 = 0 ∨ M s 1 = 1 then fnF M s e else M
set_option maxHeartbeats 4000000 in
theorem k_Pl_isRight (l : Launch) (n : Nat) (M : Mem) (hn : 117 ≤ n) (hS : SC M) (hT : TX M) (s e : Int) (hs : 20 ≤ s ∧ s < 81) (h5 : M s 1 = 5 → 0 ≤ M s 2 ∧ M s 2 ≤ 3) : AF l m_Pl_isRight 5 [.inr 17, .inr s, .inl e] n M (some (.inl (rtR M s e))) (rtM M s e) := by
  refine AM_intro (by decide) (Nat.le_of_ble_eq_true rfl) (fun X b0 D hC _ => ?_)
  show AW X b0 D true 0 0 _ n M 0 [some (.inr 17), some (.inr s), some (.inl e)] []
  refine A_ald1 hC d_Pl_isRight_0 ?_
  refine A_getI (kI := 1) hC d_Pl_isRight_1 fF_Pl_36 ⟨by decide, rfl⟩ rfl (ly_S (by omega)) (by omega) ?_
  refine A_tsw (td := 116) [44, 44, 116, 51, 116, 84] hC d_Pl_isRight_4 (by decide) (by decide) (by decide) ⟨fun h4 => ?_, fun h4 => ?_, fun h4 => ?_, fun h4 => ?_, fun h4 => ?_, fun h4 => ?_, trivial⟩ (fun h4 => ?_)
  · refine A_ald0 hC d_Pl_isRight_44 ?_
    refine A_ald1 hC d_Pl_isRight_45 ?_
    refine A_ild2 hC d_Pl_isRight_46 ?_
    refine A_VF1 (as := [.inr s, .inl e]) hC d_Pl_isRight_47 mv_Pl_findField lk_Pl_99 (by decide) sel_Pl_findField hq_Pl ly_17 (by omega) (k_Pl_findField l n M hn hS s e (by omega)) rfl rfl (Nat.le_of_ble_eq_true rfl) ⟨Nat.zero_le _, Nat.zero_le _⟩ rfl ?_
    refine A_zret hC d_Pl_isRight_50 rfl (Nat.le_refl _) (Nat.le_refl _) (by unfold fnR; split <;> simp) ?_
    exact ⟨fx_r (by unfold rtR; repeat (first | rfl | omega | split)), rfl, by unfold rtM; repeat (first | rfl | omega | split)⟩
  · refine A_ald0 hC d_Pl_isRight_44 ?_
    refine A_ald1 hC d_Pl_isRight_45 ?_
    refine A_ild2 hC d_Pl_isRight_46 ?_
    refine A_VF1 (as := [.inr s, .inl e]) hC d_Pl_isRight_47 mv_Pl_findField lk_Pl_99 (by decide) sel_Pl_findField hq_Pl ly_17 (by omega) (k_Pl_findField l n M hn hS s e (by omega)) rfl rfl (Nat.le_of_ble_eq_true rfl) ⟨Nat.zero_le _, Nat.zero_le _⟩ rfl ?_
    refine A_zret hC d_Pl_isRight_50 rfl (Nat.le_refl _) (Nat.le_refl _) (by unfold fnR; split <;> simp) ?_
    exact ⟨fx_r (by unfold rtR; repeat (first | rfl | omega | split)), rfl, by unfold rtM; repeat (first | rfl | omega | split)⟩
  · refine A_iconst hC d_Pl_isRight_116 (by decide) ?_
    refine A_zret hC d_Pl_isRight_117 rfl (Nat.le_refl _) (Nat.le_refl _) (by first | decide | omega) ?_
    exact ⟨fx_r (by unfold rtR; repeat (first | rfl | omega | split)), rfl, by unfold rtM; repeat (first | rfl | omega | split)⟩
  · refine A_ald0 hC d_Pl_isRight_51 ?_
    refine A_getCR (v := 1) hC d_Pl_isRight_52 fF_Pl_25 ⟨by decide, rfl⟩ ly_17 (by omega) ⟨rfl, by decide⟩ cv_17_0 ?_
    refine A_ald1 hC d_Pl_isRight_55 ?_
    refine A_getI (kI := 2) hC d_Pl_isRight_56 fF_Pl_75 ⟨by decide, rfl⟩ rfl (ly_S (by omega)) (by omega) ?_
    refine A_VF1 (as := [.inl (M s 2)]) hC d_Pl_isRight_59 mv_Sc_hasType lk_Pl_102 (by decide) sel_Sc_hasType hq_Sc ly_1 (by omega) (k_Sc_hasType l n M hn (M s 2)) rfl rfl (Nat.le_of_ble_eq_true rfl) ⟨Nat.zero_le _, Nat.zero_le _⟩ rfl ?_
    refine A_ifeq (tgt := 82) hC d_Pl_isRight_62 (by decide) (fun h62 => ?_) (fun h62 => ?_)
    · refine A_iconst hC d_Pl_isRight_82 (by decide) ?_
      refine A_zret hC d_Pl_isRight_83 rfl (Nat.le_refl _) (Nat.le_refl _) (by first | decide | omega) ?_
      exact ⟨fx_r (by unfold rtR; repeat (first | rfl | omega | split)), rfl, by unfold rtM; repeat (first | rfl | omega | split)⟩
    · refine A_ild2 hC d_Pl_isRight_65 ?_
      refine A_ald1 hC d_Pl_isRight_66 ?_
      refine A_getI (kI := 2) hC d_Pl_isRight_67 fF_Pl_75 ⟨by decide, rfl⟩ rfl (ly_S (by omega)) (by omega) ?_
      refine A_icmpeq (tgt := 78) hC d_Pl_isRight_70 (by decide) (fun h70 => ?_) (fun h70 => ?_)
      · refine A_iconst hC d_Pl_isRight_78 (by decide) ?_
        refine A_goto (tgt := 83) hC d_Pl_isRight_79 (by decide) ?_
        refine A_zret hC d_Pl_isRight_83 rfl (Nat.le_refl _) (Nat.le_refl _) (by first | decide | omega) ?_
        exact ⟨fx_r (by unfold rtR; repeat (first | rfl | omega | split)), rfl, by unfold rtM; repeat (first | rfl | omega | split)⟩
      · refine A_ild2 hC d_Pl_isRight_73 ?_
        refine A_iconst hC d_Pl_isRight_74 (by decide) ?_
        refine A_icmpne (tgt := 82) hC d_Pl_isRight_75 (by decide) (fun h75 => ?_) (fun h75 => ?_)
        · refine A_iconst hC d_Pl_isRight_82 (by decide) ?_
          refine A_zret hC d_Pl_isRight_83 rfl (Nat.le_refl _) (Nat.le_refl _) (by first | decide | omega) ?_
          exact ⟨fx_r (by unfold rtR; repeat (first | rfl | omega | split)), rfl, by unfold rtM; repeat (first | rfl | omega | split)⟩
        · refine A_iconst hC d_Pl_isRight_78 (by decide) ?_
          refine A_goto (tgt := 83) hC d_Pl_isRight_79 (by decide) ?_
          refine A_zret hC d_Pl_isRight_83 rfl (Nat.le_refl _) (Nat.le_refl _) (by first | decide | omega) ?_
          exact ⟨fx_r (by unfold rtR; repeat (first | rfl | omega | split)), rfl, by unfold rtM; repeat (first | rfl | omega | split)⟩
  · refine A_iconst hC d_Pl_isRight_116 (by decide) ?_
    refine A_zret hC d_Pl_isRight_117 rfl (Nat.le_refl _) (Nat.le_refl _) (by first | decide | omega) ?_
    exact ⟨fx_r (by unfold rtR; repeat (first | rfl | omega | split)), rfl, by unfold rtM; repeat (first | rfl | omega | split)⟩
  · refine A_ald0 hC d_Pl_isRight_84 ?_
    refine A_getCR (v := 11) hC d_Pl_isRight_85 fF_Pl_29 ⟨by decide, rfl⟩ ly_17 (by omega) ⟨rfl, by decide⟩ cv_17_1 ?_
    refine A_ald1 hC d_Pl_isRight_88 ?_
    refine A_getI (kI := 2) hC d_Pl_isRight_89 fF_Pl_75 ⟨by decide, rfl⟩ rfl (ly_S (by omega)) (by omega) ?_
    refine A_VF1 (as := [.inl (M s 2)]) hC d_Pl_isRight_92 mv_Te_isGood lk_Pl_43 (by decide) sel_Te_isGood hq_Te ly_11 (by omega) (k_Te_isGood l n M hn hT (M s 2) (by omega)) rfl rfl (Nat.le_of_ble_eq_true rfl) ⟨Nat.zero_le _, Nat.zero_le _⟩ rfl ?_
    refine A_ifeq (tgt := 114) hC d_Pl_isRight_95 (by decide) (fun h95 => ?_) (fun h95 => ?_)
    · refine A_iconst hC d_Pl_isRight_114 (by decide) ?_
      refine A_zret hC d_Pl_isRight_115 rfl (Nat.le_refl _) (Nat.le_refl _) (by first | decide | omega) ?_
      exact ⟨fx_r (by unfold rtR; repeat (first | rfl | omega | split)), rfl, by unfold rtM; repeat (first | rfl | omega | split)⟩
    · refine A_ald0 hC d_Pl_isRight_98 ?_
      refine A_getCR (v := 19) hC d_Pl_isRight_99 fF_Pl_17 ⟨by decide, rfl⟩ ly_17 (by omega) ⟨rfl, by decide⟩ cv_17_3 ?_
      refine A_ald1 hC d_Pl_isRight_102 ?_
      refine A_getI (kI := 2) hC d_Pl_isRight_103 fF_Pl_75 ⟨by decide, rfl⟩ rfl (ly_S (by omega)) (by omega) ?_
      refine A_zald hC d_Pl_isRight_106 ly_19 (by omega) (by omega) ?_
      refine A_ifne (tgt := 114) hC d_Pl_isRight_107 (by decide) (fun h107 => ?_) (fun h107 => ?_)
      · refine A_iconst hC d_Pl_isRight_114 (by decide) ?_
        refine A_zret hC d_Pl_isRight_115 rfl (Nat.le_refl _) (Nat.le_refl _) (by first | decide | omega) ?_
        exact ⟨fx_r (by unfold rtR; repeat (first | rfl | omega | split)), rfl, by unfold rtM; repeat (first | rfl | omega | split)⟩
      · refine A_iconst hC d_Pl_isRight_110 (by decide) ?_
        refine A_goto (tgt := 115) hC d_Pl_isRight_111 (by decide) ?_
        refine A_zret hC d_Pl_isRight_115 rfl (Nat.le_refl _) (Nat.le_refl _) (by first | decide | omega) ?_
        exact ⟨fx_r (by unfold rtR; repeat (first | rfl | omega | split)), rfl, by unfold rtM; repeat (first | rfl | omega | split)⟩
  · refine A_iconst hC d_Pl_isRight_116 (by decide) ?_
    refine A_zret hC d_Pl_isRight_117 rfl (Nat.le_refl _) (Nat.le_refl _) (by first | decide | omega) ?_
    exact ⟨fx_r (by unfold rtR; repeat (first | rfl | omega | split)), rfl, by unfold rtM; repeat (first | rfl | omega | split)⟩
def tyB (M : Mem) (s e : Int) : Int := if M s 1 = 3 then M s 2 else if M s 1 = 1 then tO M e (M s 3) else e
set_option maxHeartbeats 4000000 in
theorem k_Pl_typeBehind (l : Launch) (n : Nat) (M : Mem) (hn : 117 ≤ n) (hS : SC M) (s e : Int) (hs : 20 ≤ s ∧ s < 81) : AF l m_Pl_typeBehind 4 [.inr 17, .inr s, .inl e] n M (some (.inl (tyB M s e))) M := by
  refine AM_intro (by decide) (Nat.le_of_ble_eq_true rfl) (fun X b0 D hC _ => ?_)
  show AW X b0 D true 0 0 _ n M 0 [some (.inr 17), some (.inr s), some (.inl e)] []
  refine A_ald1 hC d_Pl_typeBehind_0 ?_
  refine A_getI (kI := 1) hC d_Pl_typeBehind_1 fF_Pl_36 ⟨by decide, rfl⟩ rfl (ly_S (by omega)) (by omega) ?_
  refine A_iconst hC d_Pl_typeBehind_4 (by decide) ?_
  refine A_icmpne (tgt := 13) hC d_Pl_typeBehind_5 (by decide) (fun h5 => ?_) (fun h5 => ?_)
  · refine A_ald1 hC d_Pl_typeBehind_13 ?_
    refine A_getI (kI := 1) hC d_Pl_typeBehind_14 fF_Pl_36 ⟨by decide, rfl⟩ rfl (ly_S (by omega)) (by omega) ?_
    refine A_iconst hC d_Pl_typeBehind_17 (by decide) ?_
    refine A_icmpne (tgt := 36) hC d_Pl_typeBehind_18 (by decide) (fun h18 => ?_) (fun h18 => ?_)
    · refine A_ild2 hC d_Pl_typeBehind_36 ?_
      refine A_iret hC d_Pl_typeBehind_37 rfl (Nat.le_refl _) (Nat.le_refl _) ?_
      exact ⟨fx_r (by unfold tyB tO; repeat (first | rfl | omega | split)), rfl, rfl⟩
    · refine A_ald0 hC d_Pl_typeBehind_21 ?_
      refine A_getCR (v := 1) hC d_Pl_typeBehind_22 fF_Pl_25 ⟨by decide, rfl⟩ ly_17 (by omega) ⟨rfl, by decide⟩ cv_17_0 ?_
      refine A_ild2 hC d_Pl_typeBehind_25 ?_
      refine A_ald1 hC d_Pl_typeBehind_26 ?_
      refine A_getI (kI := 3) hC d_Pl_typeBehind_27 fF_Pl_96 ⟨by decide, rfl⟩ rfl (ly_S (by omega)) (by omega) ?_
      refine A_VF1 (as := [.inl e, .inl (M s 3)]) hC d_Pl_typeBehind_30 mv_Sc_targetOf lk_Pl_122 (by decide) sel_Sc_targetOf hq_Sc ly_1 (by omega) (k_Sc_targetOf l n M hn hS e (M s 3)) rfl rfl (Nat.le_of_ble_eq_true rfl) ⟨Nat.zero_le _, Nat.zero_le _⟩ rfl ?_
      refine A_goto (tgt := 37) hC d_Pl_typeBehind_33 (by decide) ?_
      refine A_iret hC d_Pl_typeBehind_37 rfl (Nat.le_refl _) (Nat.le_refl _) ?_
      exact ⟨fx_r (by unfold tyB tO; repeat (first | rfl | omega | split)), rfl, rfl⟩
  · refine A_ald1 hC d_Pl_typeBehind_8 ?_
    refine A_getI (kI := 2) hC d_Pl_typeBehind_9 fF_Pl_75 ⟨by decide, rfl⟩ rfl (ly_S (by omega)) (by omega) ?_
    refine A_iret hC d_Pl_typeBehind_12 rfl (Nat.le_refl _) (Nat.le_refl _) ?_
    exact ⟨fx_r (by unfold tyB tO; repeat (first | rfl | omega | split)), rfl, rfl⟩
set_option maxHeartbeats 4000000 in
theorem k_Pl_root (l : Launch) (n : Nat) (M : Mem) (hn : 117 ≤ n) : AF l m_Pl_root 1 [.inr 17] n M (some (.inr 20)) M := by
  refine AM_intro (by decide) (Nat.le_of_ble_eq_true rfl) (fun X b0 D hC _ => ?_)
  show AW X b0 D true 0 0 _ n M 0 [some (.inr 17)] []
  refine A_ald0 hC d_Pl_root_0 ?_
  refine A_getCR (v := 18) hC d_Pl_root_1 fF_Pl_11 ⟨by decide, rfl⟩ ly_17 (by omega) ⟨rfl, by decide⟩ cv_17_2 ?_
  refine A_iconst hC d_Pl_root_4 (by decide) ?_
  refine A_aaldC (v := 20) hC d_Pl_root_5 ly_18 (by omega) (by omega) ⟨rfl, kk_st (by omega)⟩ (by rw [cv_st]; try omega) ?_
  refine A_aret hC d_Pl_root_6 rfl (Nat.le_refl _) (Nat.le_refl _) ?_
  exact ⟨rfl, rfl, rfl⟩
end
section
-- ===== writing the query out: what it does to the cells
def wM2 (M : Mem) (k s : Int) : Mem := rtM (tkS M k s) (20 + M 17 4) (M s 5)
def wM3 (M : Mem) (k s : Int) : Mem := up (wM2 M k s) (20 + M 17 4) 5 (tyB (wM2 M k s) (20 + M 17 4) (M s 5))
noncomputable def wR (M : Mem) (k s : Int) : Int := rtR (tkS M k s) (20 + M 17 4) (M s 5)
/-- the text t from its token i on, inside of step cell s; f bounds the depth -/
noncomputable def wO : Nat → Mem → Int → Int → Int → Int × Mem
  | 0, M, _, _, _ => (0, M)
  | f + 1, M, t, i, s =>
    if M 12 t ≤ i then (1, up M 19 t 0)
    else if 61 ≤ M 17 4 then (0, up M 17 5 (t * 16 + i))
    else if wR M (t * 16 + i) s = 0 then (0, up (wM2 M (t * 16 + i) s) 17 5 (t * 16 + i))
    else if M 13 (t * 16 + i) = 5 then
      (if (wO f (up (wM3 M (t * 16 + i) s) 19 (M 14 (t * 16 + i)) 1) (M 14 (t * 16 + i)) 0 (20 + M 17 4)).1 = 0 then (0, (wO f (up (wM3 M (t * 16 + i) s) 19 (M 14 (t * 16 + i)) 1) (M 14 (t * 16 + i)) 0 (20 + M 17 4)).2)
      else wO f (wO f (up (wM3 M (t * 16 + i) s) 19 (M 14 (t * 16 + i)) 1) (M 14 (t * 16 + i)) 0 (20 + M 17 4)).2 t (i + 1) s)
    else if M 13 (t * 16 + i) = 6 then wO f (up (wM3 M (t * 16 + i) s) s 6 (M 17 4)) t (i + 1) (M s 4)
    else if opnP (M 13 (t * 16 + i)) then wO f (wM3 M (t * 16 + i) s) t (i + 1) (20 + M 17 4)
    else wO f (wM3 M (t * 16 + i) s) t (i + 1) s
theorem rtM_n {M : Mem} {s e c j : Int} (h : c ≠ s ∨ (j ≠ 7 ∧ j ≠ 8)) : rtM M s e c j = M c j := by
  unfold rtM
  split
  · unfold fnF
    rcases h with h | h
    · rw [up_nc h, up_nc h]
    · rw [up_nk h.2, up_nk h.1]
  · rfl
theorem tkS_n {M : Mem} {k s c j : Int} (h1 : c ≠ 20 + M 17 4) (h2 : c ≠ 17 ∨ j ≠ 4) : tkS M k s c j = M c j := by
  unfold tkS
  have e : ∀ (N : Mem) (v : Int), up N 17 4 v c j = N c j := fun N v => h2.elim (fun h => up_nc h) (fun h => up_nk h)
  rw [e, up_nc h1, up_nc h1, up_nc h1, up_nc h1, up_nc h1]
theorem tkS_z {M : Mem} {k s : Int} : tkS M k s 17 4 = M 17 4 + 1 := by unfold tkS; rw [up_eq]
theorem tkS_o {M : Mem} {k s j : Int} (h : 0 ≤ M 17 4) (h1 : j ≠ 1) (h2 : j ≠ 2) (h3 : j ≠ 3) (h4 : j ≠ 4) (h6 : j ≠ 6) : tkS M k s (20 + M 17 4) j = M (20 + M 17 4) j := by
  unfold tkS
  rw [up_nc (by omega), up_nk h6, up_nk h4, up_nk h3, up_nk h2, up_nk h1]
theorem tkS_1 {M : Mem} {k s : Int} (h : 0 ≤ M 17 4) : tkS M k s (20 + M 17 4) 1 = M 13 k := by
  unfold tkS
  rw [up_nc (by omega), up_nk (by decide), up_nk (by decide), up_nk (by decide), up_nk (by decide), up_eq]
theorem tkS_2 {M : Mem} {k s : Int} (h : 0 ≤ M 17 4) : tkS M k s (20 + M 17 4) 2 = M 14 k := by
  unfold tkS
  rw [up_nc (by omega), up_nk (by decide), up_nk (by decide), up_nk (by decide), up_eq]
theorem tkS_3 {M : Mem} {k s : Int} (h : 0 ≤ M 17 4) : tkS M k s (20 + M 17 4) 3 = M 15 k := by
  unfold tkS
  rw [up_nc (by omega), up_nk (by decide), up_nk (by decide), up_eq]
theorem tkS_4 {M : Mem} {k s : Int} (h : 0 ≤ M 17 4) : tkS M k s (20 + M 17 4) 4 = s := by
  unfold tkS
  rw [up_nc (by omega), up_nk (by decide), up_eq]
theorem tkS_6 {M : Mem} {k s : Int} (h : 0 ≤ M 17 4) : tkS M k s (20 + M 17 4) 6 = M 17 4 := by
  unfold tkS
  rw [up_nc (by omega), up_eq]
theorem tkS_5 {M : Mem} {k s c : Int} (h : 0 ≤ M 17 4) (hc : c ≠ 17) : tkS M k s c 5 = M c 5 := by
  by_cases e : c = 20 + M 17 4
  · rw [e, tkS_o h (by decide) (by decide) (by decide) (by decide) (by decide)]
  · exact tkS_n e (Or.inl hc)
theorem wM3_n {M : Mem} {k s c j : Int} (h1 : c ≠ 20 + M 17 4) (h2 : c ≠ 17 ∨ j ≠ 4) : wM3 M k s c j = M c j := by
  unfold wM3 wM2
  rw [up_nc h1, rtM_n (Or.inl h1), tkS_n h1 h2]
theorem wM2_n {M : Mem} {k s c j : Int} (h1 : c ≠ 20 + M 17 4) (h2 : c ≠ 17 ∨ j ≠ 4) : wM2 M k s c j = M c j := by
  unfold wM2
  rw [rtM_n (Or.inl h1), tkS_n h1 h2]
theorem wM2_z {M : Mem} {k s : Int} (h : 0 ≤ M 17 4) : wM2 M k s 17 4 = M 17 4 + 1 := by
  unfold wM2
  rw [rtM_n (Or.inl (by omega)), tkS_z]
theorem wM3_z {M : Mem} {k s : Int} (h : 0 ≤ M 17 4) : wM3 M k s 17 4 = M 17 4 + 1 := by
  unfold wM3
  rw [up_nc (by omega), wM2_z h]
theorem wM2_s {M : Mem} {k s j : Int} (h7 : j ≠ 7) (h8 : j ≠ 8) : wM2 M k s (20 + M 17 4) j = tkS M k s (20 + M 17 4) j := by
  unfold wM2
  rw [rtM_n (Or.inr ⟨h7, h8⟩)]
theorem wM3_s {M : Mem} {k s j : Int} (h5 : j ≠ 5) (h7 : j ≠ 7) (h8 : j ≠ 8) : wM3 M k s (20 + M 17 4) j = tkS M k s (20 + M 17 4) j := by
  unfold wM3
  rw [up_nk h5, wM2_s h7 h8]
/-- what holds of the cells while the query is written out -/
def WI (M : Mem) : Prop := SC M ∧ TX M ∧ (∀ k : Int, M 13 k = 5 → 0 ≤ M 14 k ∧ M 14 k ≤ 3) ∧ (1 ≤ M 17 4 ∧ M 17 4 ≤ 61) ∧ ∀ c : Int, 20 ≤ c → c < 20 + M 17 4 → 20 ≤ M c 4 ∧ M c 4 < 20 + M 17 4
theorem WI_eq {M M' : Mem} (h : WI M) (h1 : ∀ c j : Int, c < 16 → M' c j = M c j) (hz : M' 17 4 = M 17 4) (ho : ∀ c : Int, 20 ≤ c → c < 81 → M' c 4 = M c 4) : WI M' := by
  obtain ⟨a1, a2, a3, a4, a5⟩ := h
  refine ⟨?_, fun t => ?_, fun k => ?_, by rw [hz]; exact a4, fun c b1 b2 => ?_⟩
  · unfold SC
    simp only [h1 1 _ (by decide), h1 2 _ (by decide)]
    exact a1
  · rw [h1 12 _ (by decide)]; exact a2 t
  · rw [h1 13 _ (by decide), h1 14 _ (by decide)]; exact a3 k
  · rw [hz] at b2 ⊢
    rw [ho c b1 (by omega)]
    exact a5 c b1 b2
theorem WI_3 {M : Mem} {k s : Int} (h : WI M) (hz : M 17 4 ≤ 60) (hs : 20 ≤ s ∧ s < 20 + M 17 4) : WI (wM3 M k s) := by
  obtain ⟨a1, a2, a3, a4, a5⟩ := h
  have e : ∀ c j : Int, c < 16 → wM3 M k s c j = M c j := fun c j hc => wM3_n (by omega) (Or.inl (by omega))
  refine ⟨?_, fun t => ?_, fun k => ?_, by rw [wM3_z (by omega)]; omega, fun c b1 b2 => ?_⟩
  · unfold SC
    simp only [e 1 _ (by decide), e 2 _ (by decide)]
    exact a1
  · rw [e 12 _ (by decide)]; exact a2 t
  · rw [e 13 _ (by decide), e 14 _ (by decide)]; exact a3 k
  · rw [wM3_z (by omega)] at b2 ⊢
    by_cases hc : c = 20 + M 17 4
    · rw [hc, wM3_s (by decide) (by decide) (by decide), tkS_4 (by omega)]
      omega
    · rw [wM3_n hc (Or.inl (by omega))]
      have := a5 c b1 (by omega)
      omega
theorem WI_u {M : Mem} {c j v : Int} (h : WI M) (hc : 16 ≤ c) (h1 : c ≠ 17 ∨ j ≠ 4) (h2 : c < 20 ∨ j ≠ 4) : WI (up M c j v) := by
  refine WI_eq h (fun c' j' hc' => up_nc (by omega)) ?_ (fun c' b1 b2 => ?_)
  · rcases h1 with h1 | h1
    · exact up_nc (Ne.symm h1)
    · exact up_nk (Ne.symm h1)
  · rcases h2 with h2 | h2
    · exact up_nc (by omega)
    · exact up_nk (Ne.symm h2)
/-- the size only grows, and the rest stays as it must -/
theorem wO_WI : ∀ (f : Nat) (M : Mem) (t i s : Int), WI M → 20 ≤ s → s < 20 + M 17 4 → WI (wO f M t i s).2 ∧ M 17 4 ≤ (wO f M t i s).2 17 4
  | 0, M, t, i, s, h, _, _ => ⟨h, Int.le_refl _⟩
  | f + 1, M, t, i, s, h, h1, h2 => by
    unfold wO
    have hz := h.2.2.2.1
    have hz3 := wM3_z (M := M) (k := t * 16 + i) (s := s) (by omega)
    split
    · exact ⟨WI_u h (by decide) (Or.inl (by decide)) (Or.inl (by decide)), by show _ ≤ up M 19 t 0 17 4; rw [up_nc (by decide)]; exact Int.le_refl _⟩
    · split
      · exact ⟨WI_u h (by decide) (Or.inr (by decide)) (Or.inl (by decide)), by show _ ≤ up M 17 5 (t * 16 + i) 17 4; rw [up_nk (by decide)]; exact Int.le_refl _⟩
      · split
        · have hw : WI (wM2 M (t * 16 + i) s) := WI_eq (WI_3 (k := t * 16 + i) h (by omega) ⟨h1, h2⟩) (fun c j hc => by rw [wM2_n (by omega) (Or.inl (by omega)), wM3_n (by omega) (Or.inl (by omega))]) (by rw [wM2_z (by omega), hz3]) (fun c b1 b2 => by unfold wM3; rw [up_nk (by decide)])
          exact ⟨WI_u hw (by decide) (Or.inr (by decide)) (Or.inl (by decide)), by show _ ≤ up (wM2 M (t * 16 + i) s) 17 5 (t * 16 + i) 17 4; rw [up_nk (by decide), wM2_z (by omega)]; omega⟩
        · have h3 := WI_3 (k := t * 16 + i) h (by omega) ⟨h1, h2⟩
          have hs := h.2.2.2.2 s h1 h2
          split
          · have h4 : WI (up (wM3 M (t * 16 + i) s) 19 (M 14 (t * 16 + i)) 1) := WI_u h3 (by decide) (Or.inl (by decide)) (Or.inl (by decide))
            have z4 : up (wM3 M (t * 16 + i) s) 19 (M 14 (t * 16 + i)) 1 17 4 = M 17 4 + 1 := by rw [up_nc (by decide), hz3]
            have h5 := wO_WI f (up (wM3 M (t * 16 + i) s) 19 (M 14 (t * 16 + i)) 1) (M 14 (t * 16 + i)) 0 (20 + M 17 4) h4 (by omega) (by rw [z4]; omega)
            rw [z4] at h5
            split
            · exact ⟨h5.1, by have := h5.2; show _ ≤ (wO f _ _ _ _).2 17 4; omega⟩
            · have h6 := wO_WI f _ t (i + 1) s h5.1 h1 (by have := h5.2; omega)
              exact ⟨h6.1, by have := h5.2; have := h6.2; omega⟩
          · split
            · have h4 : WI (up (wM3 M (t * 16 + i) s) s 6 (M 17 4)) := WI_u h3 (by omega) (Or.inr (by decide)) (Or.inr (by decide))
              have z4 : up (wM3 M (t * 16 + i) s) s 6 (M 17 4) 17 4 = M 17 4 + 1 := by rw [up_nk (by decide), hz3]
              have h5 := wO_WI f _ t (i + 1) (M s 4) h4 (by omega) (by rw [z4]; omega)
              rw [z4] at h5
              exact ⟨h5.1, by have := h5.2; omega⟩
            · split
              · have h5 := wO_WI f _ t (i + 1) (20 + M 17 4) h3 (by omega) (by rw [hz3]; omega)
                rw [hz3] at h5
                exact ⟨h5.1, by have := h5.2; omega⟩
              · have h5 := wO_WI f _ t (i + 1) s h3 h1 (by rw [hz3]; omega)
                rw [hz3] at h5
                exact ⟨h5.1, by have := h5.2; omega⟩
end
section
theorem SC_of {M M' : Mem} (h : SC M) (e : ∀ c j : Int, c < 16 → M' c j = M c j) : SC M' := by
  unfold SC
  simp only [e 1 _ (by decide), e 2 _ (by decide)]
  exact h
theorem TX_of {M M' : Mem} (h : TX M) (e : ∀ c j : Int, c < 16 → M' c j = M c j) : TX M' := fun t => by rw [e 12 _ (by decide)]; exact h t
theorem wM2_5 {M : Mem} {k s c : Int} (h : 0 ≤ M 17 4) (hc : c ≠ 17) : wM2 M k s c 5 = M c 5 := by
  unfold wM2
  rw [rtM_n (Or.inr ⟨by decide, by decide⟩), tkS_5 h hc]
set_option maxHeartbeats 4000000 in
theorem k_Pl_writeOut (l : Launch) (n : Nat) (hn : 117 ≤ n) : ∀ (f : Nat) (M : Mem) (t s : Int), WI M → 62 ≤ (f : Int) + M 17 4 → 0 ≤ t ∧ t ≤ 3 → 20 ≤ s ∧ s < 20 + M 17 4 → AF l m_Pl_writeOut (7 + f) [.inr 17, .inl t, .inr s] n M (some (.inl (wO f (up M 19 t 1) t 0 s).1)) (wO f (up M 19 t 1) t 0 s).2 := by
  intro f
  induction f using Nat.strongRecOn with
  | _ f IH =>
    intro M0 t s hI0 hf0 ht hs0
    refine AM_intro (by decide) (Nat.le_of_ble_eq_true rfl) (fun X b0 D hC _ => ?_)
    show AW X b0 D true 0 0 _ n M0 0 [some (.inr 17), some (.inl t), some (.inr s), none, none, none, none] []
    have loop : ∀ (g : Nat), g ≤ f → ∀ (M : Mem) (i s : Int) (x2 x5 x6 : Option AV) (R : Int) (M1 : Mem), WI M → 62 ≤ (g : Int) + M 17 4 → 20 ≤ s → s < 20 + M 17 4 → 0 ≤ i → wO g M t i s = (R, M1) → AW X b0 D true 0 0 (fx_Q X b0 D true 0 0 (fun r' n' M' => r' = (some (.inl R)) ∧ n' = n ∧ M' = M1)) n M 12 [some (.inr 17), some (.inl t), x2, some (.inr s), some (.inl i), x5, x6] [] := by
      intro g
      induction g with
      | zero =>
        intro _ M i s x2 x5 x6 R M1 hI hf
        have := hI.2.2.2.1
        omega
      | succ g ih =>
        intro hg M i s x2 x5 x6 R M1 hI hf hs1 hs2 hi hw
        unfold wO at hw
        have hz := hI.2.2.2.1
        have hT1 := hI.2.1 t
        refine A_ild4 hC d_Pl_writeOut_12 ?_
        refine A_ald0 hC d_Pl_writeOut_14 ?_
        refine A_getCR (v := 11) hC d_Pl_writeOut_15 fF_Pl_29 ⟨by decide, rfl⟩ ly_17 (by omega) ⟨rfl, by decide⟩ cv_17_1 ?_
        refine A_getCR (v := 12) hC d_Pl_writeOut_18 fF_Pl_59 ⟨by decide, rfl⟩ ly_11 (by omega) ⟨rfl, by decide⟩ cv_11_0 ?_
        refine A_ild1 hC d_Pl_writeOut_21 ?_
        refine A_iald hC d_Pl_writeOut_22 ly_12 (by omega) (by omega) ?_
        refine A_icmpge (tgt := 173) hC d_Pl_writeOut_23 (by decide) (fun h23 => ?_) (fun h23 => ?_)
        · refine A_ald0 hC d_Pl_writeOut_173 ?_
          refine A_getCR (v := 19) hC d_Pl_writeOut_174 fF_Pl_17 ⟨by decide, rfl⟩ ly_17 (by omega) ⟨rfl, by decide⟩ cv_17_3 ?_
          refine A_ild1 hC d_Pl_writeOut_177 ?_
          refine A_iconst hC d_Pl_writeOut_178 (by decide) ?_
          refine A_zast hC d_Pl_writeOut_179 ly_19 (by omega) (by omega) (fun _ => kk_z _) (by first | decide | omega) ?_
          refine A_iconst hC d_Pl_writeOut_180 (by decide) ?_
          refine A_zret hC d_Pl_writeOut_181 rfl (Nat.le_refl _) (Nat.le_refl _) (by first | decide | omega) ?_
          rw [if_pos h23] at hw
          cases hw
          exact ⟨rfl, rfl, rfl⟩
        · refine A_ild1 hC d_Pl_writeOut_26 ?_
          refine A_bipush hC d_Pl_writeOut_27 (by decide) (by decide) ?_
          refine A_imul hC d_Pl_writeOut_29 (by omega) ?_
          refine A_ild4 hC d_Pl_writeOut_30 ?_
          refine A_iadd hC d_Pl_writeOut_32 (by omega) ?_
          refine A_ist5 hC d_Pl_writeOut_33 ?_
          refine A_ald0 hC d_Pl_writeOut_35 ?_
          refine A_getI (kI := 4) hC d_Pl_writeOut_36 fF_Pl_52 ⟨by decide, rfl⟩ rfl ly_17 (by omega) ?_
          refine A_ald0 hC d_Pl_writeOut_39 ?_
          refine A_getCR (v := 18) hC d_Pl_writeOut_40 fF_Pl_11 ⟨by decide, rfl⟩ ly_17 (by omega) ⟨rfl, by decide⟩ cv_17_2 ?_
          refine A_alen hC d_Pl_writeOut_43 ly_18 (by decide) (by decide) (by omega) ?_
          refine A_icmpge (tgt := 65) hC d_Pl_writeOut_44 (by decide) (fun h44 => ?_) (fun h44 => ?_)
          · refine A_ald0 hC d_Pl_writeOut_65 ?_
            refine A_ild5 hC d_Pl_writeOut_66 ?_
            refine A_putI (kI := 5) hC d_Pl_writeOut_68 fP_Pl_21 ⟨by decide, rfl⟩ rfl ly_17 (by omega) (fun _ => by decide) ?_
            refine A_iconst hC d_Pl_writeOut_71 (by decide) ?_
            refine A_zret hC d_Pl_writeOut_72 rfl (Nat.le_refl _) (Nat.le_refl _) (by first | decide | omega) ?_
            rw [if_neg h23, if_pos (by omega)] at hw
            cases hw
            exact ⟨rfl, rfl, rfl⟩
          · have e1 : ∀ c j : Int, c < 16 → tkS M (t * 16 + i) s c j = M c j := fun c j hc => tkS_n (by omega) (Or.inl (by omega))
            have hS5 : SC (tkS M (t * 16 + i) s) := SC_of hI.1 e1
            have hT5 : TX (tkS M (t * 16 + i) s) := TX_of hI.2.1 e1
            have h55 : tkS M (t * 16 + i) s (20 + M 17 4) 1 = 5 → 0 ≤ tkS M (t * 16 + i) s (20 + M 17 4) 2 ∧ tkS M (t * 16 + i) s (20 + M 17 4) 2 ≤ 3 := by
              rw [tkS_1 (by omega), tkS_2 (by omega)]
              exact hI.2.2.1 _
            have e2 : ∀ c j : Int, c < 16 → wM2 M (t * 16 + i) s c j = M c j := fun c j hc => wM2_n (by omega) (Or.inl (by omega))
            have hS6 : SC (wM2 M (t * 16 + i) s) := SC_of hI.1 e2
            have h3 := WI_3 (k := t * 16 + i) hI (by omega) ⟨hs1, hs2⟩
            have hz3 := wM3_z (M := M) (k := t * 16 + i) (s := s) (by omega)
            refine A_ald0 hC d_Pl_writeOut_47 ?_
            refine A_ald0 hC d_Pl_writeOut_48 ?_
            refine A_ild5 hC d_Pl_writeOut_49 ?_
            refine A_ald3 hC d_Pl_writeOut_51 ?_
            refine A_VF1 (as := [.inl ((t * 16) + i), .inr s]) hC d_Pl_writeOut_52 mv_Pl_takeStep lk_Pl_63 (by omega) sel_Pl_takeStep hq_Pl ly_17 (by omega) (k_Pl_takeStep l n M hn ((t * 16) + i) s (by omega) (by omega)) rfl rfl (Nat.le_of_ble_eq_true rfl) ⟨Nat.zero_le _, Nat.zero_le _⟩ rfl ?_
            refine A_ald3 hC d_Pl_writeOut_55 ?_
            refine A_getI (kI := 5) hC d_Pl_writeOut_56 fF_Pl_49 ⟨by decide, rfl⟩ rfl (ly_S (by omega)) (by omega) ?_
            refine A_eqi (tkS_5 (by omega) (by omega)) ?_
            refine A_VF1 (as := [.inr (20 + M 17 4), .inl (M s 5)]) hC d_Pl_writeOut_59 mv_Pl_isRight lk_Pl_67 (by omega) sel_Pl_isRight hq_Pl ly_17 (by omega) (show AF l m_Pl_isRight 5 [.inr 17, .inr (20 + M 17 4), .inl (M s 5)] n (tkS M (t * 16 + i) s) (some (.inl (wR M (t * 16 + i) s))) (wM2 M (t * 16 + i) s) from k_Pl_isRight l n _ hn hS5 hT5 _ _ (by omega) h55) rfl rfl (Nat.le_of_ble_eq_true rfl) ⟨Nat.zero_le _, Nat.zero_le _⟩ rfl ?_
            refine A_ifne (tgt := 73) hC d_Pl_writeOut_62 (by decide) (fun h62 => ?_) (fun h62 => ?_)
            · refine A_ald0 hC d_Pl_writeOut_73 ?_
              refine A_getCR (v := 18) hC d_Pl_writeOut_74 fF_Pl_11 ⟨by decide, rfl⟩ ly_17 (by omega) ⟨rfl, by decide⟩ cv_17_2 ?_
              refine A_ald0 hC d_Pl_writeOut_77 ?_
              refine A_getI (kI := 4) hC d_Pl_writeOut_78 fF_Pl_52 ⟨by decide, rfl⟩ rfl ly_17 (by omega) ?_
              refine A_eqi (wM2_z (by omega)) ?_
              refine A_iconst hC d_Pl_writeOut_81 (by decide) ?_
              refine A_isub hC d_Pl_writeOut_82 (by omega) ?_
              refine A_aaldC (v := 20 + M 17 4) hC d_Pl_writeOut_83 ly_18 (by omega) (by omega) ⟨rfl, kk_st (by omega)⟩ (by rw [cv_st]; try omega) ?_
              refine A_ast6 hC d_Pl_writeOut_84 ?_
              refine A_ald6 hC d_Pl_writeOut_86 ?_
              refine A_ald0 hC d_Pl_writeOut_88 ?_
              refine A_ald6 hC d_Pl_writeOut_89 ?_
              refine A_ald3 hC d_Pl_writeOut_91 ?_
              refine A_getI (kI := 5) hC d_Pl_writeOut_92 fF_Pl_49 ⟨by decide, rfl⟩ rfl (ly_S (by omega)) (by omega) ?_
              refine A_eqi (wM2_5 (by omega) (by omega)) ?_
              refine A_VF1 (as := [.inr (20 + M 17 4), .inl (M s 5)]) hC d_Pl_writeOut_95 mv_Pl_typeBehind lk_Pl_71 (by omega) sel_Pl_typeBehind hq_Pl ly_17 (by omega) (k_Pl_typeBehind l n (wM2 M (t * 16 + i) s) hn hS6 (20 + M 17 4) (M s 5) (by omega)) rfl rfl (Nat.le_of_ble_eq_true rfl) ⟨Nat.zero_le _, Nat.zero_le _⟩ rfl ?_
              refine A_putI (kI := 5) hC d_Pl_writeOut_98 fP_Pl_49 ⟨by decide, rfl⟩ rfl (ly_S (by omega)) (by omega) (fun _ => by decide) ?_
              show AW X b0 D true 0 0 _ n (wM3 M (t * 16 + i) s) _ _ _
              refine A_ald6 hC d_Pl_writeOut_101 ?_
              refine A_getI (kI := 1) hC d_Pl_writeOut_103 fF_Pl_36 ⟨by decide, rfl⟩ rfl (ly_S (by omega)) (by omega) ?_
              refine A_eqi (show wM3 M (t * 16 + i) s (20 + M 17 4) 1 = M 13 (t * 16 + i) by rw [wM3_s (by decide) (by decide) (by decide), tkS_1 (by omega)]) ?_
              refine A_iconst hC d_Pl_writeOut_106 (by decide) ?_
              refine A_icmpne (tgt := 126) hC d_Pl_writeOut_107 (by decide) (fun h107 => ?_) (fun h107 => ?_)
              · refine A_ald6 hC d_Pl_writeOut_126 ?_
                refine A_getI (kI := 1) hC d_Pl_writeOut_128 fF_Pl_36 ⟨by decide, rfl⟩ rfl (ly_S (by omega)) (by omega) ?_
                refine A_eqi (show wM3 M (t * 16 + i) s (20 + M 17 4) 1 = M 13 (t * 16 + i) by rw [wM3_s (by decide) (by decide) (by decide), tkS_1 (by omega)]) ?_
                refine A_bipush hC d_Pl_writeOut_131 (by decide) (by decide) ?_
                refine A_icmpne (tgt := 153) hC d_Pl_writeOut_133 (by decide) (fun h133 => ?_) (fun h133 => ?_)
                · refine A_ald6 hC d_Pl_writeOut_153 ?_
                  refine A_getI (kI := 1) hC d_Pl_writeOut_155 fF_Pl_36 ⟨by decide, rfl⟩ rfl (ly_S (by omega)) (by omega) ?_
                  refine A_eqi (show wM3 M (t * 16 + i) s (20 + M 17 4) 1 = M 13 (t * 16 + i) by rw [wM3_s (by decide) (by decide) (by decide), tkS_1 (by omega)]) ?_
                  refine A_SNF1 (as := [.inl (M 13 (t * 16 + i))]) hC d_Pl_writeOut_158 mv_G_hasSetBehind lk_Pl_84 (by omega) (k_G_hasSetBehind l n (wM3 M (t * 16 + i) s) hn (M 13 (t * 16 + i))) rfl rfl (Nat.le_of_ble_eq_true rfl) ⟨Nat.zero_le _, Nat.zero_le _⟩ rfl ?_
                  refine A_ifeq (tgt := 167) hC d_Pl_writeOut_161 (by decide) (fun h161 => ?_) (fun h161 => ?_)
                  · refine A_iinc4 hC d_Pl_writeOut_167 (by omega) ?_
                    refine A_goto (tgt := 12) hC d_Pl_writeOut_170 (by decide) ?_
                    rw [if_neg h23, if_neg (by omega), if_neg h62, if_neg h107, if_neg h133, if_neg (by omega)] at hw
                    exact ih (by omega) _ (i + 1) s _ _ _ R M1 h3 (by rw [hz3]; omega) hs1 (by rw [hz3]; omega) (by omega) hw
                  · refine A_ald6 hC d_Pl_writeOut_164 ?_
                    refine A_ast3 hC d_Pl_writeOut_166 ?_
                    refine A_iinc4 hC d_Pl_writeOut_167 (by omega) ?_
                    refine A_goto (tgt := 12) hC d_Pl_writeOut_170 (by decide) ?_
                    rw [if_neg h23, if_neg (by omega), if_neg h62, if_neg h107, if_neg h133, if_pos (by omega)] at hw
                    exact ih (by omega) _ (i + 1) (20 + M 17 4) _ _ _ R M1 h3 (by rw [hz3]; omega) (by omega) (by rw [hz3]; omega) (by omega) hw
                · refine A_ald3 hC d_Pl_writeOut_136 ?_
                  refine A_ald6 hC d_Pl_writeOut_137 ?_
                  refine A_getCI (v := M 17 4) hC d_Pl_writeOut_139 fF_Pl_78 ⟨by decide, rfl⟩ (ly_S (by omega)) (by omega) ⟨rfl, by decide⟩ (by rw [cv_S (by omega)]; try omega) ?_
                  refine A_putI (kI := 6) hC d_Pl_writeOut_142 fP_Pl_81 ⟨by decide, rfl⟩ rfl (ly_S (by omega)) (by omega) (fun _ => by decide) ?_
                  refine A_ald3 hC d_Pl_writeOut_145 ?_
                  refine A_getRE (x := (wM3 M (t * 16 + i) s) s 4) (kI := 4) hC d_Pl_writeOut_146 fF_Pl_39 ⟨by decide, rfl⟩ rfl (ly_S (by omega)) (by omega) (by rw [up_nk (k := 6) (k' := 4) (by decide)]) ?_
                  refine A_eqr (wM3_n (by omega) (Or.inl (by omega))) ?_
                  refine A_ast3 hC d_Pl_writeOut_149 ?_
                  refine A_goto (tgt := 167) hC d_Pl_writeOut_150 (by decide) ?_
                  refine A_iinc4 hC d_Pl_writeOut_167 (by omega) ?_
                  refine A_goto (tgt := 12) hC d_Pl_writeOut_170 (by decide) ?_
                  rw [if_neg h23, if_neg (by omega), if_neg h62, if_neg h107, if_pos h133] at hw
                  have ho := hI.2.2.2.2 s hs1 hs2
                  exact ih (by omega) _ (i + 1) (M s 4) _ _ _ R M1 (WI_u h3 (by omega) (Or.inr (by decide)) (Or.inr (by decide))) (by rw [up_nk (by decide), hz3]; omega) (by omega) (by rw [up_nk (by decide), hz3]; omega) (by omega) hw
              · refine A_ald0 hC d_Pl_writeOut_110 ?_
                refine A_ald6 hC d_Pl_writeOut_111 ?_
                refine A_getI (kI := 2) hC d_Pl_writeOut_113 fF_Pl_75 ⟨by decide, rfl⟩ rfl (ly_S (by omega)) (by omega) ?_
                refine A_eqi (show wM3 M (t * 16 + i) s (20 + M 17 4) 2 = M 14 (t * 16 + i) by rw [wM3_s (by decide) (by decide) (by decide), tkS_2 (by omega)]) ?_
                refine A_ald6 hC d_Pl_writeOut_116 ?_
                refine A_VF1 (as := [.inl (M 14 (t * 16 + i)), .inr (20 + M 17 4)]) hC d_Pl_writeOut_118 mv_Pl_writeOut lk_Pl_55 (by omega) sel_Pl_writeOut hq_Pl ly_17 (by omega) (IH g (by omega) (wM3 M (t * 16 + i) s) (M 14 (t * 16 + i)) (20 + M 17 4) h3 (by rw [hz3]; omega) (hI.2.2.1 _ h107) (by rw [hz3]; omega)) rfl rfl (Nat.le_of_ble_eq_true rfl) ⟨Nat.zero_le _, Nat.zero_le _⟩ rfl ?_
                refine A_ifne (tgt := 167) hC d_Pl_writeOut_121 (by decide) (fun h121 => ?_) (fun h121 => ?_)
                · refine A_iinc4 hC d_Pl_writeOut_167 (by omega) ?_
                  refine A_goto (tgt := 12) hC d_Pl_writeOut_170 (by decide) ?_
                  rw [if_neg h23, if_neg (by omega), if_neg h62, if_pos h107, if_neg h121] at hw
                  have h5 := wO_WI g _ (M 14 (t * 16 + i)) 0 (20 + M 17 4) (WI_u h3 (v := 1) (j := M 14 (t * 16 + i)) (c := 19) (by decide) (Or.inl (by decide)) (Or.inl (by decide))) (by omega) (by rw [up_nc (by decide), hz3]; omega)
                  rw [up_nc (by decide), hz3] at h5
                  exact ih (by omega) _ (i + 1) s _ _ _ R M1 h5.1 (by have := h5.2; omega) hs1 (by have := h5.2; omega) (by omega) hw
                · refine A_iconst hC d_Pl_writeOut_124 (by decide) ?_
                  refine A_zret hC d_Pl_writeOut_125 rfl (Nat.le_refl _) (Nat.le_refl _) (by first | decide | omega) ?_
                  rw [if_neg h23, if_neg (by omega), if_neg h62, if_pos h107, if_pos h121] at hw
                  cases hw
                  exact ⟨rfl, rfl, rfl⟩
            · refine A_ald0 hC d_Pl_writeOut_65 ?_
              refine A_ild5 hC d_Pl_writeOut_66 ?_
              refine A_putI (kI := 5) hC d_Pl_writeOut_68 fP_Pl_21 ⟨by decide, rfl⟩ rfl ly_17 (by omega) (fun _ => by decide) ?_
              refine A_iconst hC d_Pl_writeOut_71 (by decide) ?_
              refine A_zret hC d_Pl_writeOut_72 rfl (Nat.le_refl _) (Nat.le_refl _) (by first | decide | omega) ?_
              rw [if_neg h23, if_neg (by omega), if_pos h62] at hw
              cases hw
              exact ⟨rfl, rfl, rfl⟩
    refine A_ald2 hC d_Pl_writeOut_0 ?_
    refine A_ast3 hC d_Pl_writeOut_1 ?_
    refine A_ald0 hC d_Pl_writeOut_2 ?_
    refine A_getCR (v := 19) hC d_Pl_writeOut_3 fF_Pl_17 ⟨by decide, rfl⟩ ly_17 (by omega) ⟨rfl, by decide⟩ cv_17_3 ?_
    refine A_ild1 hC d_Pl_writeOut_6 ?_
    refine A_iconst hC d_Pl_writeOut_7 (by decide) ?_
    refine A_zast hC d_Pl_writeOut_8 ly_19 (by omega) (by omega) (fun _ => kk_z _) (by first | decide | omega) ?_
    refine A_iconst hC d_Pl_writeOut_9 (by decide) ?_
    refine A_ist4 hC d_Pl_writeOut_10 ?_
    have hIu : WI (up M0 19 t 1) := WI_u hI0 (by decide) (Or.inl (by decide)) (Or.inl (by decide))
    exact loop f (Nat.le_refl f) (up M0 19 t 1) 0 s _ _ _ _ _ hIu (by rw [up_nc (by decide)]; exact hf0) hs0.1 (by rw [up_nc (by decide)]; exact hs0.2) (by decide) rfl
end
section
theorem wO_01 : ∀ (f : Nat) (M : Mem) (t i s : Int), (wO f M t i s).1 = 0 ∨ (wO f M t i s).1 = 1
  | 0, _, _, _, _ => Or.inl rfl
  | f + 1, M, t, i, s => by
    unfold wO
    repeat (first | exact wO_01 f _ _ _ _ | exact Or.inl rfl | exact Or.inr rfl | split)
def wQ0 (M : Mem) (t : Int) : Mem := up (up (up (up (up (up (up M 19 0 0) 19 (0 + 1) 0) 19 (0 + 1 + 1) 0) 19 (0 + 1 + 1 + 1) 0) 20 5 t) 17 4 1) 17 5 (-1)
/-- the query written out for the type t: 1 or 0, and the cells -/
noncomputable def wQ (M : Mem) (t : Int) : Int × Mem := if gd (M 13) (M 12) 0 = 0 then (0, up M 17 5 0) else wO 61 (up (wQ0 M t) 19 0 1) 0 0 20
theorem wQ0_n {M : Mem} {t c j : Int} (h19 : c ≠ 19) (h20 : c ≠ 20 ∨ j ≠ 5) (h17 : c ≠ 17 ∨ (j ≠ 4 ∧ j ≠ 5)) : wQ0 M t c j = M c j := by
  unfold wQ0
  have e1 : ∀ (N : Mem) (v : Int), up N 17 5 v c j = N c j := fun N v => h17.elim (fun h => up_nc h) (fun h => up_nk h.2)
  have e2 : ∀ (N : Mem) (v : Int), up N 17 4 v c j = N c j := fun N v => h17.elim (fun h => up_nc h) (fun h => up_nk h.1)
  have e3 : ∀ (N : Mem) (v : Int), up N 20 5 v c j = N c j := fun N v => h20.elim (fun h => up_nc h) (fun h => up_nk h)
  rw [e1, e2, e3, up_nc h19, up_nc h19, up_nc h19, up_nc h19]
theorem wQ0_z {M : Mem} {t : Int} : wQ0 M t 17 4 = 1 := by
  unfold wQ0
  rw [up_nk (by decide), up_eq]
/-- what holds of the texts and of step 0 before the query is written out -/
def WP (M : Mem) : Prop := SC M ∧ TX M ∧ (∀ k : Int, M 13 k = 5 → 0 ≤ M 14 k ∧ M 14 k ≤ 3) ∧ M 20 4 = 20
theorem WI_Q {M : Mem} {t : Int} (h : WP M) : WI (wQ0 M t) := by
  have e : ∀ c j : Int, c < 16 → wQ0 M t c j = M c j := fun c j hc => wQ0_n (by omega) (Or.inl (by omega)) (Or.inl (by omega))
  refine ⟨SC_of h.1 e, TX_of h.2.1 e, fun k => ?_, by rw [wQ0_z]; omega, fun c b1 b2 => ?_⟩
  · rw [e 13 _ (by decide), e 14 _ (by decide)]; exact h.2.2.1 k
  · rw [wQ0_z] at b2 ⊢
    have : c = 20 := by omega
    subst this
    rw [wQ0_n (by decide) (Or.inr (by decide)) (Or.inl (by decide)), h.2.2.2]
    omega
set_option maxHeartbeats 4000000 in
theorem k_Pl_writeOutQuery (l : Launch) (n : Nat) (M : Mem) (hn : 117 ≤ n) (hP : WP M) (t : Int) : AF l m_Pl_writeOutQuery 69 [.inr 17, .inl t] n M (some (.inl ((wQ M t).1))) ((wQ M t).2) := by
  refine AM_intro (by decide) (Nat.le_of_ble_eq_true rfl) (fun X b0 D hC _ => ?_)
  show AW X b0 D true 0 0 (fx_Q X b0 D true 0 0 (fun r' n' M' => r' = (some (.inl ((wQ M t).1))) ∧ n' = n ∧ M' = ((wQ M t).2))) n M 0 [some (.inr 17), some (.inl t), none] []
  have hT := hP.2.1
  refine A_ald0 hC d_Pl_writeOutQuery_0 ?_
  refine A_getCR (v := 11) hC d_Pl_writeOutQuery_1 fF_Pl_29 ⟨by decide, rfl⟩ ly_17 (by omega) ⟨rfl, by decide⟩ cv_17_1 ?_
  refine A_iconst hC d_Pl_writeOutQuery_4 (by decide) ?_
  refine A_VF1 (as := [.inl 0]) hC d_Pl_writeOutQuery_5 mv_Te_isGood lk_Pl_43 (by decide) sel_Te_isGood hq_Te ly_11 (by omega) (k_Te_isGood l n M hn hT 0 (by omega)) rfl rfl (Nat.le_of_ble_eq_true rfl) ⟨Nat.zero_le _, Nat.zero_le _⟩ rfl ?_
  refine A_ifne (tgt := 18) hC d_Pl_writeOutQuery_8 (by decide) (fun h8 => ?_) (fun h8 => ?_)
  · refine A_iconst hC d_Pl_writeOutQuery_18 (by decide) ?_
    refine A_ist2 hC d_Pl_writeOutQuery_19 ?_
    refine A_ild2 hC d_Pl_writeOutQuery_20 ?_
    refine A_iconst hC d_Pl_writeOutQuery_21 (by decide) ?_
    refine A_icmpge (tgt := 38) hC d_Pl_writeOutQuery_22 (by decide) (fun h22 => ?_) (fun h22 => ?_)
    · exact absurd h22 (by decide)
    refine A_ald0 hC d_Pl_writeOutQuery_25 ?_
    refine A_getCR (v := 19) hC d_Pl_writeOutQuery_26 fF_Pl_17 ⟨by decide, rfl⟩ ly_17 (by omega) ⟨rfl, by decide⟩ cv_17_3 ?_
    refine A_ild2 hC d_Pl_writeOutQuery_29 ?_
    refine A_iconst hC d_Pl_writeOutQuery_30 (by decide) ?_
    refine A_zast hC d_Pl_writeOutQuery_31 ly_19 (by omega) (by omega) (fun _ => kk_z _) (by first | decide | omega) ?_
    refine A_iinc2 hC d_Pl_writeOutQuery_32 (by omega) ?_
    refine A_goto (tgt := 20) hC d_Pl_writeOutQuery_35 (by decide) ?_
    refine A_ild2 hC d_Pl_writeOutQuery_20 ?_
    refine A_iconst hC d_Pl_writeOutQuery_21 (by decide) ?_
    refine A_icmpge (tgt := 38) hC d_Pl_writeOutQuery_22 (by decide) (fun h22 => ?_) (fun h22 => ?_)
    · exact absurd h22 (by decide)
    refine A_ald0 hC d_Pl_writeOutQuery_25 ?_
    refine A_getCR (v := 19) hC d_Pl_writeOutQuery_26 fF_Pl_17 ⟨by decide, rfl⟩ ly_17 (by omega) ⟨rfl, by decide⟩ cv_17_3 ?_
    refine A_ild2 hC d_Pl_writeOutQuery_29 ?_
    refine A_iconst hC d_Pl_writeOutQuery_30 (by decide) ?_
    refine A_zast hC d_Pl_writeOutQuery_31 ly_19 (by omega) (by omega) (fun _ => kk_z _) (by first | decide | omega) ?_
    refine A_iinc2 hC d_Pl_writeOutQuery_32 (by omega) ?_
    refine A_goto (tgt := 20) hC d_Pl_writeOutQuery_35 (by decide) ?_
    refine A_ild2 hC d_Pl_writeOutQuery_20 ?_
    refine A_iconst hC d_Pl_writeOutQuery_21 (by decide) ?_
    refine A_icmpge (tgt := 38) hC d_Pl_writeOutQuery_22 (by decide) (fun h22 => ?_) (fun h22 => ?_)
    · exact absurd h22 (by decide)
    refine A_ald0 hC d_Pl_writeOutQuery_25 ?_
    refine A_getCR (v := 19) hC d_Pl_writeOutQuery_26 fF_Pl_17 ⟨by decide, rfl⟩ ly_17 (by omega) ⟨rfl, by decide⟩ cv_17_3 ?_
    refine A_ild2 hC d_Pl_writeOutQuery_29 ?_
    refine A_iconst hC d_Pl_writeOutQuery_30 (by decide) ?_
    refine A_zast hC d_Pl_writeOutQuery_31 ly_19 (by omega) (by omega) (fun _ => kk_z _) (by first | decide | omega) ?_
    refine A_iinc2 hC d_Pl_writeOutQuery_32 (by omega) ?_
    refine A_goto (tgt := 20) hC d_Pl_writeOutQuery_35 (by decide) ?_
    refine A_ild2 hC d_Pl_writeOutQuery_20 ?_
    refine A_iconst hC d_Pl_writeOutQuery_21 (by decide) ?_
    refine A_icmpge (tgt := 38) hC d_Pl_writeOutQuery_22 (by decide) (fun h22 => ?_) (fun h22 => ?_)
    · exact absurd h22 (by decide)
    refine A_ald0 hC d_Pl_writeOutQuery_25 ?_
    refine A_getCR (v := 19) hC d_Pl_writeOutQuery_26 fF_Pl_17 ⟨by decide, rfl⟩ ly_17 (by omega) ⟨rfl, by decide⟩ cv_17_3 ?_
    refine A_ild2 hC d_Pl_writeOutQuery_29 ?_
    refine A_iconst hC d_Pl_writeOutQuery_30 (by decide) ?_
    refine A_zast hC d_Pl_writeOutQuery_31 ly_19 (by omega) (by omega) (fun _ => kk_z _) (by first | decide | omega) ?_
    refine A_iinc2 hC d_Pl_writeOutQuery_32 (by omega) ?_
    refine A_goto (tgt := 20) hC d_Pl_writeOutQuery_35 (by decide) ?_
    refine A_ild2 hC d_Pl_writeOutQuery_20 ?_
    refine A_iconst hC d_Pl_writeOutQuery_21 (by decide) ?_
    refine A_icmpge (tgt := 38) hC d_Pl_writeOutQuery_22 (by decide) (fun h22 => ?_) (fun h22 => ?_)
    rotate_left
    · exact absurd h22 (by decide)
    refine A_ald0 hC d_Pl_writeOutQuery_38 ?_
    refine A_getCR (v := 18) hC d_Pl_writeOutQuery_39 fF_Pl_11 ⟨by decide, rfl⟩ ly_17 (by omega) ⟨rfl, by decide⟩ cv_17_2 ?_
    refine A_iconst hC d_Pl_writeOutQuery_42 (by decide) ?_
    refine A_aaldC (v := 20) hC d_Pl_writeOutQuery_43 ly_18 (by omega) (by omega) ⟨rfl, kk_st (by omega)⟩ (by rw [cv_st]; try omega) ?_
    refine A_ild1 hC d_Pl_writeOutQuery_44 ?_
    refine A_putI (kI := 5) hC d_Pl_writeOutQuery_45 fP_Pl_49 ⟨by decide, rfl⟩ rfl (ly_S (by omega)) (by omega) (fun _ => by decide) ?_
    refine A_ald0 hC d_Pl_writeOutQuery_48 ?_
    refine A_iconst hC d_Pl_writeOutQuery_49 (by decide) ?_
    refine A_putI (kI := 4) hC d_Pl_writeOutQuery_50 fP_Pl_52 ⟨by decide, rfl⟩ rfl ly_17 (by omega) (fun _ => by decide) ?_
    refine A_ald0 hC d_Pl_writeOutQuery_53 ?_
    refine A_iconst hC d_Pl_writeOutQuery_54 (by decide) ?_
    refine A_putI (kI := 5) hC d_Pl_writeOutQuery_55 fP_Pl_21 ⟨by decide, rfl⟩ rfl ly_17 (by omega) (fun _ => by decide) ?_
    refine A_ald0 hC d_Pl_writeOutQuery_58 ?_
    refine A_iconst hC d_Pl_writeOutQuery_59 (by decide) ?_
    refine A_ald0 hC d_Pl_writeOutQuery_60 ?_
    refine A_getCR (v := 18) hC d_Pl_writeOutQuery_61 fF_Pl_11 ⟨by decide, rfl⟩ ly_17 (by omega) ⟨rfl, by decide⟩ cv_17_2 ?_
    refine A_iconst hC d_Pl_writeOutQuery_64 (by decide) ?_
    refine A_aaldC (v := 20) hC d_Pl_writeOutQuery_65 ly_18 (by omega) (by omega) ⟨rfl, kk_st (by omega)⟩ (by rw [cv_st]; try omega) ?_
    refine A_VF1 (as := [.inl 0, .inr 20]) hC d_Pl_writeOutQuery_66 mv_Pl_writeOut lk_Pl_55 (by decide) sel_Pl_writeOut hq_Pl ly_17 (by omega) (show AF l m_Pl_writeOut 68 [.inr 17, .inl 0, .inr 20] n (wQ0 M t) (some (.inl (wO 61 (up (wQ0 M t) 19 0 1) 0 0 20).1)) (wO 61 (up (wQ0 M t) 19 0 1) 0 0 20).2 from k_Pl_writeOut l n hn 61 (wQ0 M t) 0 20 (WI_Q hP) (by rw [wQ0_z]; decide) (by decide) (by rw [wQ0_z]; decide)) rfl rfl (Nat.le_of_ble_eq_true rfl) ⟨Nat.zero_le _, Nat.zero_le _⟩ rfl ?_
    refine A_zret hC d_Pl_writeOutQuery_69 rfl (Nat.le_refl _) (Nat.le_refl _) (by exact wO_01 _ _ _ _ _) ?_
    exact ⟨fx_r (by unfold wQ; rw [if_neg h8]), rfl, by unfold wQ; rw [if_neg h8]⟩
  · refine A_ald0 hC d_Pl_writeOutQuery_11 ?_
    refine A_iconst hC d_Pl_writeOutQuery_12 (by decide) ?_
    refine A_putI (kI := 5) hC d_Pl_writeOutQuery_13 fP_Pl_21 ⟨by decide, rfl⟩ rfl ly_17 (by omega) (fun _ => by decide) ?_
    refine A_iconst hC d_Pl_writeOutQuery_16 (by decide) ?_
    refine A_zret hC d_Pl_writeOutQuery_17 rfl (Nat.le_refl _) (Nat.le_refl _) (by first | decide | omega) ?_
    exact ⟨fx_r (by unfold wQ; rw [if_pos h8]), rfl, by unfold wQ; rw [if_pos h8]⟩
set_option maxHeartbeats 4000000 in
theorem k_G_check (l : Launch) (n : Nat) (M : Mem) (hn : 117 ≤ n) (hP : WP M) (t : Int) : AF l m_G_check 70 [.inr 0, .inl t] n M (some (.inl (if ¬ (0 ≤ t ∧ t < M 1 4) then -1 else if (wQ M t).1 = 0 then -3 else 0))) (if ¬ (0 ≤ t ∧ t < M 1 4) then M else (wQ M t).2) := by
  refine AM_intro (by decide) (Nat.le_of_ble_eq_true rfl) (fun X b0 D hC _ => ?_)
  show AW X b0 D true 0 0 _ n M 0 [some (.inr 0), some (.inl t)] []
  refine A_ald0 hC d_G_check_0 ?_
  refine A_getCR (v := 1) hC d_G_check_1 fF_G_12 ⟨by decide, rfl⟩ ly_0 (by omega) ⟨rfl, by decide⟩ cv_0_0 ?_
  refine A_ild1 hC d_G_check_4 ?_
  refine A_VF1 (as := [.inl t]) hC d_G_check_5 mv_Sc_hasType lk_G_68 (by decide) sel_Sc_hasType hq_Sc ly_1 (by omega) (k_Sc_hasType l n M hn t) rfl rfl (Nat.le_of_ble_eq_true rfl) ⟨Nat.zero_le _, Nat.zero_le _⟩ rfl ?_
  refine A_ifne (tgt := 13) hC d_G_check_8 (by decide) (fun h8 => ?_) (fun h8 => ?_)
  · refine A_ald0 hC d_G_check_13 ?_
    refine A_getCR (v := 17) hC d_G_check_14 fF_G_39 ⟨by decide, rfl⟩ ly_0 (by omega) ⟨rfl, by decide⟩ cv_0_4 ?_
    refine A_ild1 hC d_G_check_17 ?_
    refine A_VF1 (as := [.inl t]) hC d_G_check_18 mv_Pl_writeOutQuery lk_G_125 (by decide) sel_Pl_writeOutQuery hq_Pl ly_17 (by omega) (k_Pl_writeOutQuery l n M hn hP t) rfl rfl (Nat.le_of_ble_eq_true rfl) ⟨Nat.zero_le _, Nat.zero_le _⟩ rfl ?_
    refine A_ifeq (tgt := 28) hC d_G_check_21 (by decide) (fun h21 => ?_) (fun h21 => ?_)
    · refine A_bipush hC d_G_check_28 (by decide) (by decide) ?_
      refine A_iret hC d_G_check_30 rfl (Nat.le_refl _) (Nat.le_refl _) ?_
      exact ⟨fx_r (by repeat (first | omega | split)), rfl, by repeat (first | rfl | omega | split)⟩
    · refine A_iconst hC d_G_check_24 (by decide) ?_
      refine A_goto (tgt := 30) hC d_G_check_25 (by decide) ?_
      refine A_iret hC d_G_check_30 rfl (Nat.le_refl _) (Nat.le_refl _) ?_
      exact ⟨fx_r (by repeat (first | omega | split)), rfl, by repeat (first | rfl | omega | split)⟩
  · refine A_iconst hC d_G_check_11 (by decide) ?_
    refine A_iret hC d_G_check_12 rfl (Nat.le_refl _) (Nat.le_refl _) ?_
    exact ⟨fx_r (by repeat (first | omega | split)), rfl, by repeat (first | rfl | omega | split)⟩
end
section
-- ===== CHECKING, as the document goes through the tokens: a row of steps. E: the class's cells (schema 1 .. 5, texts 12 .. 15)
abbrev Fr : Type := Int × Int × Int
/-- the open SETS, the innermost first: (expected type, where to go on behind it or -1, the step that opened it) -/
abbrev topF (st : List Fr) : Fr := st.headD (5, -1, 0)
def nxS (E : Mem) (k i : Int) (st : List Fr) : List Fr :=
  if E 13 i = 1 then (tO E (topF st).1 (E 15 i), -1, k) :: st
  else if E 13 i = 3 then (E 14 i, -1, k) :: st
  else if E 13 i = 4 then ((topF st).1, -1, k) :: st
  else if E 13 i = 5 then ((topF st).1, i + 1, k) :: st
  else if E 13 i = 6 then st.tail
  else st
def nxI (E : Mem) (i : Int) (st : List Fr) : Int :=
  if E 13 i = 5 then 16 * E 14 i else if E 13 i = 6 ∧ 0 ≤ (topF st).2.1 then (topF st).2.1 else i + 1
def nxU (E : Mem) (i : Int) (st : List Fr) (u : Int → Int) : Int → Int :=
  if E 13 i = 5 then (fun f => if f = E 14 i then 1 else u f) else if E 13 i = 6 ∧ 0 ≤ (topF st).2.1 then (fun f => if f = i / 16 then 0 else u f) else u
abbrev rgtP (E : Mem) (t i : Int) (u : Int → Int) : Prop := (E 13 i = 0 → kO E t (E 15 i) = 0) ∧ (E 13 i = 1 → kO E t (E 15 i) = 1 ∨ kO E t (E 15 i) = 2) ∧ (E 13 i = 3 → (0 ≤ E 14 i ∧ E 14 i < E 1 4) ∧ (t = E 14 i ∨ t = 5)) ∧ (E 13 i = 5 → gd (E 13) (E 12) (E 14 i) = 1 ∧ u (E 14 i) = 0)
/-- the place of the first WRONG token, -1 if there is none; f: how many tokens may still be gone through -/
def ckO (E : Mem) : Nat → Int → Int → List Fr → (Int → Int) → Int
  | _, _, _, [], _ => -1
  | 0, _, i, _ :: _, _ => i
  | f + 1, k, i, a :: st, u => if rgtP E a.1 i u then ckO E f (k + 1) (nxI E i (a :: st)) (nxS E k i (a :: st)) (nxU E i (a :: st) u) else i
/-- the texts: at most 16 tokens each, each token as it was taken -/
def TXT (E : Mem) : Prop := (∀ t : Int, 0 ≤ E 12 t ∧ E 12 t ≤ 16) ∧ ∀ i : Int, 0 ≤ i → i < 64 → tokP (E 13 i) (E 14 i) (E 15 i)
/-- where the going through stands: G has, for each text that is being gone through, the innermost first, its number and how many of its SETS are open -/
def gOK (E : Mem) : List (Int × Int) → Int → List Fr → Prop
  | [], _, st => st = []
  | (T, d) :: G, i, st => (0 ≤ T ∧ T ≤ 3) ∧ (1 ≤ d ∧ d ≤ 4) ∧ (16 * T ≤ i ∧ i < 16 * T + E 12 T) ∧ gdF (E 13) (16 * T + E 12 T - i).toNat i d = 1 ∧ ∃ (A : List Fr) (b : Fr) (R : List Fr), st = A ++ b :: R ∧ (A.length : Int) + 1 = d ∧ (∀ a ∈ A, a.2.1 = -1) ∧ ((G = [] ∧ b.2.1 = -1 ∧ R = []) ∨ (G ≠ [] ∧ 0 ≤ b.2.1 ∧ gOK E G b.2.1 R))
theorem gdF_0 {op : Int → Int} {k : Nat} {i : Int} (h : gdF op k i 0 = 1) : k = 0 := by
  cases k with
  | zero => rfl
  | succ k => unfold gdF at h; rw [if_pos rfl] at h; omega
theorem gdF_p {op : Int → Int} {k : Nat} {i d : Int} (hd : 1 ≤ d) (h : gdF op k i d = 1) : ∃ j : Nat, k = j + 1 := by
  cases k with
  | zero => unfold gdF at h; rw [if_neg (by omega)] at h; omega
  | succ k => exact ⟨k, rfl⟩
theorem gOK_ne {E : Mem} {T d i : Int} {G : List (Int × Int)} {st : List Fr} (h : gOK E ((T, d) :: G) i st) : st ≠ [] := by
  obtain ⟨-, -, -, -, A, b, R, rfl, -⟩ := h
  simp
/-- one token further -/
theorem gOK_step {E : Mem} (hX : TXT E) {T d i k : Int} {G : List (Int × Int)} {st : List Fr} {u : Int → Int} (h : gOK E ((T, d) :: G) i st) (hr : rgtP E (topF st).1 i u) :
    ∃ G' : List (Int × Int), gOK E G' (nxI E i st) (nxS E k i st) ∧ (G' = (T, d + 1) :: G ∧ opnP (E 13 i) ∨ G' = (T, d) :: G ∧ ¬ opnP (E 13 i) ∧ E 13 i ≠ 5 ∧ E 13 i ≠ 6 ∨ G' = (E 14 i, 1) :: (T, d) :: G ∧ E 13 i = 5 ∨ (G' = (T, d - 1) :: G ∧ 2 ≤ d ∨ G' = G ∧ d = 1) ∧ E 13 i = 6) := by
  obtain ⟨hT, hd, hi, hg, A, b, R, rfl, hA, hAm, hB⟩ := h
  obtain ⟨j, hj⟩ := gdF_p hd.1 hg
  rw [hj] at hg
  unfold gdF at hg
  rw [if_neg (by omega)] at hg
  have hk := hX.2 i (by omega) (by have := hX.1 T; omega)
  have hjn : (16 * T + E 12 T - (i + 1)).toNat = j := by omega
  by_cases h6 : E 13 i = 6
  · rw [if_pos h6] at hg
    cases A with
    | nil =>
      have hd1 : d = 1 := by simp at hA; omega
      subst hd1
      have hj0 := gdF_0 hg
      have eS : nxS E k i ([] ++ b :: R) = R := by
        unfold nxS
        rw [if_neg (by omega), if_neg (by omega), if_neg (by omega), if_neg (by omega), if_pos h6]
        rfl
      refine ⟨G, ?_, Or.inr (Or.inr (Or.inr ⟨Or.inr ⟨rfl, rfl⟩, h6⟩))⟩
      rw [eS]
      rcases hB with ⟨rfl, -, rfl⟩ | ⟨-, hb0, hB⟩
      · rfl
      · have eI : nxI E i ([] ++ b :: R) = b.2.1 := by
          unfold nxI
          rw [if_neg (by omega), if_pos ⟨h6, hb0⟩]
          rfl
        rw [eI]
        exact hB
    | cons a A =>
      simp only [List.length_cons] at hA
      have ha : a.2.1 = -1 := hAm a List.mem_cons_self
      have eS : nxS E k i (a :: A ++ b :: R) = A ++ b :: R := by
        unfold nxS
        rw [if_neg (by omega), if_neg (by omega), if_neg (by omega), if_neg (by omega), if_pos h6]
        rfl
      have eI : nxI E i (a :: A ++ b :: R) = i + 1 := by
        unfold nxI
        rw [if_neg (by omega), if_neg]
        rintro ⟨-, q⟩
        have : a.2.1 = (topF (a :: A ++ b :: R)).2.1 := rfl
        omega
      rw [eS, eI]
      obtain ⟨j2, hj2⟩ := gdF_p (show 1 ≤ d - 1 by omega) hg
      refine ⟨(T, d - 1) :: G, ⟨hT, by omega, by omega, by rw [hjn]; exact hg, A, b, R, rfl, by omega, fun x hx => hAm x (List.mem_cons_of_mem _ hx), hB⟩, Or.inr (Or.inr (Or.inr ⟨Or.inl ⟨rfl, by omega⟩, h6⟩))⟩
  · rw [if_neg h6] at hg
    by_cases ho : opnP (E 13 i)
    · rw [if_pos ho] at hg
      have hd4 : d ≠ 4 := fun q => by rw [if_pos q] at hg; omega
      rw [if_neg hd4] at hg
      obtain ⟨j2, hj2⟩ := gdF_p (show 1 ≤ d + 1 by omega) hg
      have eI : nxI E i (A ++ b :: R) = i + 1 := by
        unfold nxI
        rw [if_neg (by omega), if_neg (by omega)]
      have eS : ∃ x : Fr, nxS E k i (A ++ b :: R) = x :: (A ++ b :: R) ∧ x.2.1 = -1 := by
        unfold nxS
        rcases ho with q | q | q
        · rw [if_pos q]; exact ⟨_, rfl, rfl⟩
        · rw [if_neg (by omega), if_pos q]; exact ⟨_, rfl, rfl⟩
        · rw [if_neg (by omega), if_neg (by omega), if_pos q]; exact ⟨_, rfl, rfl⟩
      obtain ⟨x, eS, hx⟩ := eS
      rw [eS, eI]
      refine ⟨(T, d + 1) :: G, ⟨hT, by omega, by omega, by rw [hjn]; exact hg, x :: A, b, R, rfl, by simp only [List.length_cons]; omega, fun y hy => ?_, hB⟩, Or.inl ⟨rfl, ho⟩⟩
      rcases List.mem_cons.mp hy with rfl | hy
      · exact hx
      · exact hAm y hy
    · rw [if_neg ho] at hg
      obtain ⟨j2, hj2⟩ := gdF_p hd.1 hg
      by_cases h5 : E 13 i = 5
      · have eI : nxI E i (A ++ b :: R) = 16 * E 14 i := by unfold nxI; rw [if_pos h5]
        have eS : nxS E k i (A ++ b :: R) = ((topF (A ++ b :: R)).1, i + 1, k) :: (A ++ b :: R) := by
          unfold nxS
          rw [if_neg (by omega), if_neg (by omega), if_neg (by omega), if_pos h5]
        have hgd := (hr.2.2.2 h5).1
        have ha : 1 ≤ E 14 i ∧ E 14 i ≤ 3 := by omega
        unfold gd at hgd
        obtain ⟨j3, hj3⟩ := gdF_p (Int.le_refl 1) hgd
        have hl := hX.1 (E 14 i)
        rw [eS, eI]
        refine ⟨(E 14 i, 1) :: (T, d) :: G, ⟨by omega, by omega, by omega, by rw [show 16 * E 14 i + E 12 (E 14 i) - 16 * E 14 i = E 12 (E 14 i) by omega]; exact hgd, [], _, A ++ b :: R, rfl, by simp, fun x hx => absurd hx List.not_mem_nil, Or.inr ⟨by simp, by show 0 ≤ i + 1; omega, ?_⟩⟩, Or.inr (Or.inr (Or.inl ⟨rfl, h5⟩))⟩
        exact ⟨hT, hd, by show 16 * T ≤ i + 1 ∧ i + 1 < _; omega, by show gdF (E 13) (16 * T + E 12 T - (i + 1)).toNat (i + 1) d = 1; rw [hjn]; exact hg, A, b, R, rfl, hA, hAm, hB⟩
      · have eI : nxI E i (A ++ b :: R) = i + 1 := by
          unfold nxI
          rw [if_neg h5, if_neg (by omega)]
        have eS : nxS E k i (A ++ b :: R) = A ++ b :: R := by
          unfold nxS
          rw [if_neg (by omega), if_neg (by omega), if_neg (by omega), if_neg h5, if_neg h6]
        rw [eS, eI]
        exact ⟨(T, d) :: G, ⟨hT, hd, by omega, by rw [hjn]; exact hg, A, b, R, rfl, hA, hAm, hB⟩, Or.inr (Or.inl ⟨rfl, ho, h5, h6⟩)⟩
/-- at the start of a GOOD query -/
theorem gOK_0 {E : Mem} (hX : TXT E) (hg : gd (E 13) (E 12) 0 = 1) (t : Int) : gOK E [(0, 1)] 0 [(t, -1, 0)] := by
  unfold gd at hg
  obtain ⟨j, hj⟩ := gdF_p (Int.le_refl 1) hg
  have := hX.1 0
  exact ⟨by decide, by decide, by omega, by rw [show 16 * 0 + E 12 0 - 0 = E 12 0 by omega]; exact hg, [], (t, -1, 0), [], rfl, by simp, fun x hx => absurd hx List.not_mem_nil, Or.inl ⟨rfl, rfl, rfl⟩⟩
end
section
section ROWS5
variable {X : Cx} {b0 : Nat} {D : DD} {g : Bool} {kc ks : Nat} {Q : State → Prop} {n : Nat} {M : Mem} {pc : Nat} {la : List (Option AV)} {st : List AV} {cc : ByteArray} {own : String} {nL : Nat} {ret : Option FieldType} {l : Launch} {rk mcR msR : Nat}
theorem A_idiv {i j : Int} (hC : CX X b0 D cc own nL ret l rk mcR msR) (hd : decode cc pc = .ok (.idiv, 1)) (hi : 0 ≤ i) (hj : 0 < j) (k : AW X b0 D g kc ks Q n M (pc + 1) la (.inl (i / j) :: st)) : AW X b0 D g kc ks Q n M pc la (.inl j :: .inl i :: st) := by
  intro hs hl hm H locs ls hW hS hL
  have hj' : rg j := fx_S1 hs
  have hi' : rg i := fx_S1 (fx_St hs)
  have h1 : 0 ≤ i / j := Int.ediv_nonneg hi (by omega)
  have h2 : i / j ≤ i := Int.ediv_le_self j hi
  have hr : rg (i / j) := ⟨by omega, by omega⟩
  have e : Int32.ofInt i / Int32.ofInt j = Int32.ofInt (i / j) := by
    rw [← Int32.toInt_inj, Int32.toInt_div_of_ne_left, fx_toI hi', fx_toI hj', fx_toI hr, Int.tdiv_eq_ediv_of_nonneg hi]
    intro q
    have := congrArg Int32.toInt q
    rw [fx_toI hi'] at this
    have h3 : Int32.minValue.toInt = -2147483648 := by decide
    omega
  have kk : WX X H locs kc ks Q (F0 (xm X) (pc + 1) ls (.int (Int32.ofInt (i / j)) :: st.map (fx_co b0))) := k (fx_Sc hr (fx_St (fx_St hs))) hl hm H locs ls hW hS hL
  rw [← e] at kk
  exact lv_idiv (cx_x hC) (cx_b hC) hd (fun q => by rw [fx_eq0 hj'] at q; omega) kk
theorem fx_and {i : Int} (m : Int) (k : Nat) (hk : k ≤ 31) (hm : (Int32.ofInt m).toBitVec.toNat = 2 ^ k - 1) : Int32.ofInt i &&& Int32.ofInt m = Int32.ofInt (i % (2 ^ k : Nat)) := by
  rw [pk_and _ k hm, Int32.toBitVec_ofInt, BitVec.toNat_ofInt]
  show Int32.ofNat _ = _
  rw [← Int32.ofInt_eq_ofNat]
  congr 1
  have hd : ((2 : Nat) ^ k) ∣ 2 ^ 32 := Nat.pow_dvd_pow 2 (by omega)
  have hp : (0 : Int) < ((2 ^ 32 : Nat) : Int) := by decide
  have h0 := Int.emod_nonneg i (show ((2 ^ 32 : Nat) : Int) ≠ 0 by decide)
  rw [Int.natCast_emod, Int.toNat_of_nonneg h0]
  exact Int.emod_emod_of_dvd i (Int.natCast_dvd_natCast.mpr hd)
theorem A_iand3 {i : Int} (hC : CX X b0 D cc own nL ret l rk mcR msR) (hd : decode cc pc = .ok (.iand, 1)) (k : AW X b0 D g kc ks Q n M (pc + 1) la (.inl (i % 4) :: st)) : AW X b0 D g kc ks Q n M pc la (.inl 3 :: .inl i :: st) := by
  intro hs hl hm H locs ls hW hS hL
  have kk : WX X H locs kc ks Q (F0 (xm X) (pc + 1) ls (.int (Int32.ofInt (i % 4)) :: st.map (fx_co b0))) := k (fx_Sc (by show rg _; simp only [fx_v]; omega) (fx_St (fx_St hs))) hl hm H locs ls hW hS hL
  have e := fx_and (i := i) 3 2 (by decide) (by decide)
  have e2 : ((2 ^ 2 : Nat) : Int) = 4 := by decide
  rw [e2] at e
  rw [← e] at kk
  exact lv_iand (cx_x hC) (cx_b hC) hd kk
theorem A_iand15 {i : Int} (hC : CX X b0 D cc own nL ret l rk mcR msR) (hd : decode cc pc = .ok (.iand, 1)) (k : AW X b0 D g kc ks Q n M (pc + 1) la (.inl (i % 16) :: st)) : AW X b0 D g kc ks Q n M pc la (.inl 15 :: .inl i :: st) := by
  intro hs hl hm H locs ls hW hS hL
  have kk : WX X H locs kc ks Q (F0 (xm X) (pc + 1) ls (.int (Int32.ofInt (i % 16)) :: st.map (fx_co b0))) := k (fx_Sc (by show rg _; simp only [fx_v]; omega) (fx_St (fx_St hs))) hl hm H locs ls hW hS hL
  have e := fx_and (i := i) 15 4 (by decide) (by decide)
  have e2 : ((2 ^ 4 : Nat) : Int) = 16 := by decide
  rw [e2] at e
  rw [← e] at kk
  exact lv_iand (cx_x hC) (cx_b hC) hd kk
/-- a method that makes nothing, with its answer and what holds of the cells behind it -/
def AR (l : Launch) (md : MD) (rk : Nat) (as : List AV) (n : Nat) (M : Mem) (r : Option AV) (P : Mem → Prop) : Prop := AMet l md true rk 0 0 as n M (fun r' n' M' => r' = r ∧ n' = n ∧ P M')
theorem A_VR1 {idx na r' : Nat} {md : MD} {as st0 : List AV} {c : Int} {v : AV} {P : Mem → Prop} (hC : CX X b0 D cc own nL ret l rk mcR msR) (hd : decode cc pc = .ok (.invokevirtual idx, 3)) (hmv : MV md na) (hlk : Cond.methodLink own idx md.1 ∈ zG) (hr : r' < rk) (hsel : Cond.selects md.1.cls md.1 md.1 ∈ zG) {ci N : Nat} {T : u_T} (hq : vwCl[ci]? = some (md.1.cls, T, N) ∧ ci < 100) (hly : fx_ly c = (ci, N)) (hc : 0 ≤ c ∧ c < n) (hM : AR l md r' (.inr c :: as) n M (some v) P) (hst : as.reverse ++ .inr c :: st = st0) (hna : as.length = na) (h8 : st.length ≤ 8) (hf : kc ≤ mcR ∧ ks ≤ msR) (hlen : la.length = nL) (kk : ∀ M1 : Mem, P M1 → AW X b0 D true kc ks Q n M1 (pc + 3) la (v :: st)) : AW X b0 D true kc ks Q n M pc la st0 := A_callV hC hd hmv hlk hr hsel hq hly hc hM hst hna h8 hf hlen (fun r' n' M' h => by obtain ⟨rfl, rfl, h⟩ := h; exact kk M' h)
theorem A_VR0 {idx na r' : Nat} {md : MD} {as st0 : List AV} {c : Int} {P : Mem → Prop} (hC : CX X b0 D cc own nL ret l rk mcR msR) (hd : decode cc pc = .ok (.invokevirtual idx, 3)) (hmv : MV md na) (hlk : Cond.methodLink own idx md.1 ∈ zG) (hr : r' < rk) (hsel : Cond.selects md.1.cls md.1 md.1 ∈ zG) {ci N : Nat} {T : u_T} (hq : vwCl[ci]? = some (md.1.cls, T, N) ∧ ci < 100) (hly : fx_ly c = (ci, N)) (hc : 0 ≤ c ∧ c < n) (hM : AR l md r' (.inr c :: as) n M none P) (hst : as.reverse ++ .inr c :: st = st0) (hna : as.length = na) (h8 : st.length ≤ 8) (hf : kc ≤ mcR ∧ ks ≤ msR) (hlen : la.length = nL) (kk : ∀ M1 : Mem, P M1 → AW X b0 D true kc ks Q n M1 (pc + 3) la st) : AW X b0 D true kc ks Q n M pc la st0 := A_callV hC hd hmv hlk hr hsel hq hly hc hM hst hna h8 hf hlen (fun r' n' M' h => by obtain ⟨rfl, rfl, h⟩ := h; exact kk M' h)
end ROWS5
end
section
/-- the reference's own words for: is the token i right where the type t is expected? -/
def fRm (M : Mem) (t i : Int) : Int := if t = 5 ∨ M 89 t ≤ M 98 i then 0 else if M 96 i = 0 then (if M 90 (12 * t + 3 * M 98 i) = 0 then 1 else 0) else (if 0 < M 90 (12 * t + 3 * M 98 i) then 1 else 0)
noncomputable def mRt (M : Mem) (t i : Int) : Int := if M 96 i = 0 ∨ M 96 i = 1 then fRm M t i else if M 96 i = 3 then (if M 97 i < M 88 0 ∧ (t = M 97 i ∨ t = 5) then 1 else 0) else if M 96 i = 5 then (if ¬ gd (M 96) (M 95) (M 97 i) = 0 ∧ M 101 (M 97 i) = 0 then 1 else 0) else 1
set_option maxHeartbeats 4000000 in
theorem k_Mo_fieldRight (l : Launch) (n : Nat) (M : Mem) (hn : 117 ≤ n) (hB : MB M) (t i : Int) (ht : 0 ≤ t ∧ t ≤ 5) (hi : 0 ≤ i ∧ i ≤ 63) (hb : 0 ≤ M 98 i ∧ M 98 i ≤ 3) : AF l m_Mo_fieldRight 1 [.inr 88, .inl t, .inl i] n M (some (.inl (fRm M t i))) M := by
  refine AM_intro (by decide) (Nat.le_of_ble_eq_true rfl) (fun X b0 D hC _ => ?_)
  show AW X b0 D true 0 0 _ n M 0 [some (.inr 88), some (.inl t), some (.inl i), none] []
  have hB1 := hB.1
  have hB2 := hB.2.1
  have hB3 := hB.2.2.1
  have hB4 := hB.2.2.2.1
  have hB5 := hB.2.2.2.2.1
  have hB6 := hB.2.2.2.2.2
  have hB2t := hB2 t
  refine A_ild1 hC d_Mo_fieldRight_0 ?_
  refine A_iconst hC d_Mo_fieldRight_1 (by decide) ?_
  refine A_icmpeq (tgt := 20) hC d_Mo_fieldRight_2 (by decide) (fun h2 => ?_) (fun h2 => ?_)
  · refine A_iconst hC d_Mo_fieldRight_20 (by decide) ?_
    refine A_zret hC d_Mo_fieldRight_21 rfl (Nat.le_refl _) (Nat.le_refl _) (by first | decide | omega) ?_
    exact ⟨fx_r (by unfold fRm; repeat (first | omega | rfl | split)), rfl, rfl⟩
  · refine A_ald0 hC d_Mo_fieldRight_5 ?_
    refine A_getCR (v := 98) hC d_Mo_fieldRight_6 fF_Mo_37 ⟨by decide, rfl⟩ ly_88 (by omega) ⟨rfl, by decide⟩ cv_88_11 ?_
    refine A_ild2 hC d_Mo_fieldRight_9 ?_
    refine A_iald hC d_Mo_fieldRight_10 ly_98 (by omega) (by omega) ?_
    refine A_ald0 hC d_Mo_fieldRight_11 ?_
    refine A_getCR (v := 89) hC d_Mo_fieldRight_12 fF_Mo_7 ⟨by decide, rfl⟩ ly_88 (by omega) ⟨rfl, by decide⟩ cv_88_1 ?_
    refine A_ild1 hC d_Mo_fieldRight_15 ?_
    refine A_iald hC d_Mo_fieldRight_16 ly_89 (by omega) (by omega) ?_
    refine A_icmplt (tgt := 22) hC d_Mo_fieldRight_17 (by decide) (fun h17 => ?_) (fun h17 => ?_)
    · refine A_ald0 hC d_Mo_fieldRight_22 ?_
      refine A_getCR (v := 90) hC d_Mo_fieldRight_23 fF_Mo_13 ⟨by decide, rfl⟩ ly_88 (by omega) ⟨rfl, by decide⟩ cv_88_2 ?_
      refine A_bipush hC d_Mo_fieldRight_26 (by decide) (by decide) ?_
      refine A_ild1 hC d_Mo_fieldRight_28 ?_
      refine A_imul hC d_Mo_fieldRight_29 (by omega) ?_
      refine A_iconst hC d_Mo_fieldRight_30 (by decide) ?_
      refine A_ald0 hC d_Mo_fieldRight_31 ?_
      refine A_getCR (v := 98) hC d_Mo_fieldRight_32 fF_Mo_37 ⟨by decide, rfl⟩ ly_88 (by omega) ⟨rfl, by decide⟩ cv_88_11 ?_
      refine A_ild2 hC d_Mo_fieldRight_35 ?_
      refine A_iald hC d_Mo_fieldRight_36 ly_98 (by omega) (by omega) ?_
      refine A_imul hC d_Mo_fieldRight_37 (by omega) ?_
      refine A_iadd hC d_Mo_fieldRight_38 (by omega) ?_
      refine A_iald hC d_Mo_fieldRight_39 ly_90 (by omega) (by omega) ?_
      refine A_ist3 hC d_Mo_fieldRight_40 ?_
      refine A_ald0 hC d_Mo_fieldRight_41 ?_
      refine A_getCR (v := 96) hC d_Mo_fieldRight_42 fF_Mo_31 ⟨by decide, rfl⟩ ly_88 (by omega) ⟨rfl, by decide⟩ cv_88_9 ?_
      refine A_ild2 hC d_Mo_fieldRight_45 ?_
      refine A_iald hC d_Mo_fieldRight_46 ly_96 (by omega) (by omega) ?_
      refine A_ifne (tgt := 62) hC d_Mo_fieldRight_47 (by decide) (fun h47 => ?_) (fun h47 => ?_)
      · refine A_ild3 hC d_Mo_fieldRight_62 ?_
        refine A_ifle (tgt := 70) hC d_Mo_fieldRight_63 (by decide) (fun h63 => ?_) (fun h63 => ?_)
        · refine A_iconst hC d_Mo_fieldRight_70 (by decide) ?_
          refine A_zret hC d_Mo_fieldRight_71 rfl (Nat.le_refl _) (Nat.le_refl _) (by first | decide | omega) ?_
          exact ⟨fx_r (by unfold fRm; repeat (first | omega | rfl | split)), rfl, rfl⟩
        · refine A_iconst hC d_Mo_fieldRight_66 (by decide) ?_
          refine A_goto (tgt := 71) hC d_Mo_fieldRight_67 (by decide) ?_
          refine A_zret hC d_Mo_fieldRight_71 rfl (Nat.le_refl _) (Nat.le_refl _) (by first | decide | omega) ?_
          exact ⟨fx_r (by unfold fRm; repeat (first | omega | rfl | split)), rfl, rfl⟩
      · refine A_ild3 hC d_Mo_fieldRight_50 ?_
        refine A_ifne (tgt := 58) hC d_Mo_fieldRight_51 (by decide) (fun h51 => ?_) (fun h51 => ?_)
        · refine A_iconst hC d_Mo_fieldRight_58 (by decide) ?_
          refine A_goto (tgt := 71) hC d_Mo_fieldRight_59 (by decide) ?_
          refine A_zret hC d_Mo_fieldRight_71 rfl (Nat.le_refl _) (Nat.le_refl _) (by first | decide | omega) ?_
          exact ⟨fx_r (by unfold fRm; repeat (first | omega | rfl | split)), rfl, rfl⟩
        · refine A_iconst hC d_Mo_fieldRight_54 (by decide) ?_
          refine A_goto (tgt := 71) hC d_Mo_fieldRight_55 (by decide) ?_
          refine A_zret hC d_Mo_fieldRight_71 rfl (Nat.le_refl _) (Nat.le_refl _) (by first | decide | omega) ?_
          exact ⟨fx_r (by unfold fRm; repeat (first | omega | rfl | split)), rfl, rfl⟩
    · refine A_iconst hC d_Mo_fieldRight_20 (by decide) ?_
      refine A_zret hC d_Mo_fieldRight_21 rfl (Nat.le_refl _) (Nat.le_refl _) (by first | decide | omega) ?_
      exact ⟨fx_r (by unfold fRm; repeat (first | omega | rfl | split)), rfl, rfl⟩
set_option maxHeartbeats 4000000 in
theorem k_Mo_right (l : Launch) (n : Nat) (M : Mem) (hn : 117 ≤ n) (hB : MB M) (t i : Int) (ht : 0 ≤ t ∧ t ≤ 5) (hi : 0 ≤ i ∧ i ≤ 63) (hk : tokP (M 96 i) (M 97 i) (M 98 i)) : AF l m_Mo_right 3 [.inr 88, .inl t, .inl i] n M (some (.inl (mRt M t i))) M := by
  refine AM_intro (by decide) (Nat.le_of_ble_eq_true rfl) (fun X b0 D hC _ => ?_)
  show AW X b0 D true 0 0 _ n M 0 [some (.inr 88), some (.inl t), some (.inl i)] []
  refine A_ald0 hC d_Mo_right_0 ?_
  refine A_getCR (v := 96) hC d_Mo_right_1 fF_Mo_31 ⟨by decide, rfl⟩ ly_88 (by omega) ⟨rfl, by decide⟩ cv_88_9 ?_
  refine A_ild2 hC d_Mo_right_4 ?_
  refine A_iald hC d_Mo_right_5 ly_96 (by omega) (by omega) ?_
  refine A_tsw (td := 118) [44, 44, 118, 51, 118, 85] hC d_Mo_right_6 (by decide) (by decide) (by decide) ⟨fun h6 => ?_, fun h6 => ?_, fun h6 => ?_, fun h6 => ?_, fun h6 => ?_, fun h6 => ?_, trivial⟩ (fun h6 => ?_)
  · refine A_ald0 hC d_Mo_right_44 ?_
    refine A_ild1 hC d_Mo_right_45 ?_
    refine A_ild2 hC d_Mo_right_46 ?_
    refine A_VF1 (as := [.inl t, .inl i]) hC d_Mo_right_47 mv_Mo_fieldRight lk_Mo_124 (by decide) sel_Mo_fieldRight hq_Mo ly_88 (by omega) (k_Mo_fieldRight l n M hn hB t i (by omega) (by omega) (by omega)) rfl rfl (Nat.le_of_ble_eq_true rfl) ⟨Nat.zero_le _, Nat.zero_le _⟩ rfl ?_
    refine A_zret hC d_Mo_right_50 rfl (Nat.le_refl _) (Nat.le_refl _) (by unfold fRm; repeat (first | (left; rfl) | (right; rfl) | split)) ?_
    exact ⟨fx_r (by unfold mRt; repeat (first | rfl | omega | split)), rfl, rfl⟩
  · refine A_ald0 hC d_Mo_right_44 ?_
    refine A_ild1 hC d_Mo_right_45 ?_
    refine A_ild2 hC d_Mo_right_46 ?_
    refine A_VF1 (as := [.inl t, .inl i]) hC d_Mo_right_47 mv_Mo_fieldRight lk_Mo_124 (by decide) sel_Mo_fieldRight hq_Mo ly_88 (by omega) (k_Mo_fieldRight l n M hn hB t i (by omega) (by omega) (by omega)) rfl rfl (Nat.le_of_ble_eq_true rfl) ⟨Nat.zero_le _, Nat.zero_le _⟩ rfl ?_
    refine A_zret hC d_Mo_right_50 rfl (Nat.le_refl _) (Nat.le_refl _) (by unfold fRm; repeat (first | (left; rfl) | (right; rfl) | split)) ?_
    exact ⟨fx_r (by unfold mRt; repeat (first | rfl | omega | split)), rfl, rfl⟩
  · refine A_iconst hC d_Mo_right_118 (by decide) ?_
    refine A_zret hC d_Mo_right_119 rfl (Nat.le_refl _) (Nat.le_refl _) (by first | decide | omega) ?_
    exact ⟨fx_r (by unfold mRt; repeat (first | rfl | omega | split)), rfl, rfl⟩
  · refine A_ald0 hC d_Mo_right_51 ?_
    refine A_getCR (v := 97) hC d_Mo_right_52 fF_Mo_34 ⟨by decide, rfl⟩ ly_88 (by omega) ⟨rfl, by decide⟩ cv_88_10 ?_
    refine A_ild2 hC d_Mo_right_55 ?_
    refine A_iald hC d_Mo_right_56 ly_97 (by omega) (by omega) ?_
    refine A_ald0 hC d_Mo_right_57 ?_
    refine A_getI (kI := 0) hC d_Mo_right_58 fF_Mo_99 ⟨by decide, rfl⟩ rfl ly_88 (by omega) ?_
    refine A_icmpge (tgt := 83) hC d_Mo_right_61 (by decide) (fun h61 => ?_) (fun h61 => ?_)
    · refine A_iconst hC d_Mo_right_83 (by decide) ?_
      refine A_zret hC d_Mo_right_84 rfl (Nat.le_refl _) (Nat.le_refl _) (by first | decide | omega) ?_
      exact ⟨fx_r (by unfold mRt; repeat (first | rfl | omega | split)), rfl, rfl⟩
    · refine A_ild1 hC d_Mo_right_64 ?_
      refine A_ald0 hC d_Mo_right_65 ?_
      refine A_getCR (v := 97) hC d_Mo_right_66 fF_Mo_34 ⟨by decide, rfl⟩ ly_88 (by omega) ⟨rfl, by decide⟩ cv_88_10 ?_
      refine A_ild2 hC d_Mo_right_69 ?_
      refine A_iald hC d_Mo_right_70 ly_97 (by omega) (by omega) ?_
      refine A_icmpeq (tgt := 79) hC d_Mo_right_71 (by decide) (fun h71 => ?_) (fun h71 => ?_)
      · refine A_iconst hC d_Mo_right_79 (by decide) ?_
        refine A_goto (tgt := 84) hC d_Mo_right_80 (by decide) ?_
        refine A_zret hC d_Mo_right_84 rfl (Nat.le_refl _) (Nat.le_refl _) (by first | decide | omega) ?_
        exact ⟨fx_r (by unfold mRt; repeat (first | rfl | omega | split)), rfl, rfl⟩
      · refine A_ild1 hC d_Mo_right_74 ?_
        refine A_iconst hC d_Mo_right_75 (by decide) ?_
        refine A_icmpne (tgt := 83) hC d_Mo_right_76 (by decide) (fun h76 => ?_) (fun h76 => ?_)
        · refine A_iconst hC d_Mo_right_83 (by decide) ?_
          refine A_zret hC d_Mo_right_84 rfl (Nat.le_refl _) (Nat.le_refl _) (by first | decide | omega) ?_
          exact ⟨fx_r (by unfold mRt; repeat (first | rfl | omega | split)), rfl, rfl⟩
        · refine A_iconst hC d_Mo_right_79 (by decide) ?_
          refine A_goto (tgt := 84) hC d_Mo_right_80 (by decide) ?_
          refine A_zret hC d_Mo_right_84 rfl (Nat.le_refl _) (Nat.le_refl _) (by first | decide | omega) ?_
          exact ⟨fx_r (by unfold mRt; repeat (first | rfl | omega | split)), rfl, rfl⟩
  · refine A_iconst hC d_Mo_right_118 (by decide) ?_
    refine A_zret hC d_Mo_right_119 rfl (Nat.le_refl _) (Nat.le_refl _) (by first | decide | omega) ?_
    exact ⟨fx_r (by unfold mRt; repeat (first | rfl | omega | split)), rfl, rfl⟩
  · refine A_ald0 hC d_Mo_right_85 ?_
    refine A_ald0 hC d_Mo_right_86 ?_
    refine A_getCR (v := 97) hC d_Mo_right_87 fF_Mo_34 ⟨by decide, rfl⟩ ly_88 (by omega) ⟨rfl, by decide⟩ cv_88_10 ?_
    refine A_ild2 hC d_Mo_right_90 ?_
    refine A_iald hC d_Mo_right_91 ly_97 (by omega) (by omega) ?_
    refine A_VF1 (as := [.inl (M 97 i)]) hC d_Mo_right_92 mv_Mo_good lk_Mo_127 (by decide) sel_Mo_good hq_Mo ly_88 (by omega) (k_Mo_good l n M hn hB (M 97 i) (by omega)) rfl rfl (Nat.le_of_ble_eq_true rfl) ⟨Nat.zero_le _, Nat.zero_le _⟩ rfl ?_
    refine A_ifeq (tgt := 116) hC d_Mo_right_95 (by decide) (fun h95 => ?_) (fun h95 => ?_)
    · refine A_iconst hC d_Mo_right_116 (by decide) ?_
      refine A_zret hC d_Mo_right_117 rfl (Nat.le_refl _) (Nat.le_refl _) (by first | decide | omega) ?_
      exact ⟨fx_r (by unfold mRt; repeat (first | rfl | omega | split)), rfl, rfl⟩
    · refine A_ald0 hC d_Mo_right_98 ?_
      refine A_getCR (v := 101) hC d_Mo_right_99 fF_Mo_50 ⟨by decide, rfl⟩ ly_88 (by omega) ⟨rfl, by decide⟩ cv_88_16 ?_
      refine A_ald0 hC d_Mo_right_102 ?_
      refine A_getCR (v := 97) hC d_Mo_right_103 fF_Mo_34 ⟨by decide, rfl⟩ ly_88 (by omega) ⟨rfl, by decide⟩ cv_88_10 ?_
      refine A_ild2 hC d_Mo_right_106 ?_
      refine A_iald hC d_Mo_right_107 ly_97 (by omega) (by omega) ?_
      refine A_zald hC d_Mo_right_108 ly_101 (by omega) (by omega) ?_
      refine A_ifne (tgt := 116) hC d_Mo_right_109 (by decide) (fun h109 => ?_) (fun h109 => ?_)
      · refine A_iconst hC d_Mo_right_116 (by decide) ?_
        refine A_zret hC d_Mo_right_117 rfl (Nat.le_refl _) (Nat.le_refl _) (by first | decide | omega) ?_
        exact ⟨fx_r (by unfold mRt; repeat (first | rfl | omega | split)), rfl, rfl⟩
      · refine A_iconst hC d_Mo_right_112 (by decide) ?_
        refine A_goto (tgt := 117) hC d_Mo_right_113 (by decide) ?_
        refine A_zret hC d_Mo_right_117 rfl (Nat.le_refl _) (Nat.le_refl _) (by first | decide | omega) ?_
        exact ⟨fx_r (by unfold mRt; repeat (first | rfl | omega | split)), rfl, rfl⟩
  · refine A_iconst hC d_Mo_right_118 (by decide) ?_
    refine A_zret hC d_Mo_right_119 rfl (Nat.le_refl _) (Nat.le_refl _) (by first | decide | omega) ?_
    exact ⟨fx_r (by unfold mRt; repeat (first | rfl | omega | split)), rfl, rfl⟩
def enM (M : Mem) (t b : Int) : Mem := up (up (up M 99 (M 88 13) t) 100 (M 88 13) b) 88 13 (M 88 13 + 1)
theorem enM_n {M : Mem} {t b c j : Int} (h1 : c ≠ 99) (h2 : c ≠ 100) (h3 : c ≠ 88 ∨ j ≠ 13) : enM M t b c j = M c j := by
  unfold enM
  rw [show ∀ (N : Mem) (v : Int), up N 88 13 v c j = N c j from fun N v => h3.elim (fun h => up_nc h) (fun h => up_nk h), up_nc h2, up_nc h1]
def thI (M : Mem) (i : Int) : Int := if M 96 i = 5 then 16 * M 97 i else if M 96 i = 6 ∧ 0 ≤ M 100 (M 88 13 - 1) then M 100 (M 88 13 - 1) else i + 1
def thM (M : Mem) (i : Int) : Mem := if M 96 i = 1 then enM M (M 90 (12 * M 99 (M 88 13 - 1) + 3 * M 98 i + 1)) (-1) else if M 96 i = 3 then enM M (M 97 i) (-1) else if M 96 i = 4 then enM M (M 99 (M 88 13 - 1)) (-1) else if M 96 i = 5 then enM (up M 101 (M 97 i) 1) (M 99 (M 88 13 - 1)) (i + 1) else if M 96 i = 6 then (if 0 ≤ M 100 (M 88 13 - 1) then up (up M 88 13 (M 88 13 - 1)) 101 (i / 16) 0 else up M 88 13 (M 88 13 - 1)) else M
set_option maxHeartbeats 4000000 in
theorem k_Mo_through (l : Launch) (n : Nat) (M : Mem) (hn : 117 ≤ n) (i : Int) (hi : 0 ≤ i ∧ i ≤ 63) (ho : 1 ≤ M 88 13 ∧ M 88 13 ≤ 69) (hk : tokP (M 96 i) (M 97 i) (M 98 i)) (ht : M 96 i = 1 → 0 ≤ M 99 (M 88 13 - 1) ∧ M 99 (M 88 13 - 1) ≤ 4) : AF l m_Mo_through 2 [.inr 88, .inl i] n M (some (.inl (thI M i))) (thM M i) := by
  refine AM_intro (by decide) (Nat.le_of_ble_eq_true rfl) (fun X b0 D hC _ => ?_)
  show AW X b0 D true 0 0 _ n M 0 [some (.inr 88), some (.inl i), none] []
  refine A_ald0 hC d_Mo_through_0 ?_
  refine A_getCR (v := 99) hC d_Mo_through_1 fF_Mo_44 ⟨by decide, rfl⟩ ly_88 (by omega) ⟨rfl, by decide⟩ cv_88_14 ?_
  refine A_ald0 hC d_Mo_through_4 ?_
  refine A_getI (kI := 13) hC d_Mo_through_5 fF_Mo_130 ⟨by decide, rfl⟩ rfl ly_88 (by omega) ?_
  refine A_iconst hC d_Mo_through_8 (by decide) ?_
  refine A_isub hC d_Mo_through_9 (by omega) ?_
  refine A_iald hC d_Mo_through_10 ly_99 (by omega) (by omega) ?_
  refine A_ist2 hC d_Mo_through_11 ?_
  refine A_ald0 hC d_Mo_through_12 ?_
  refine A_getCR (v := 96) hC d_Mo_through_13 fF_Mo_31 ⟨by decide, rfl⟩ ly_88 (by omega) ⟨rfl, by decide⟩ cv_88_9 ?_
  refine A_ild1 hC d_Mo_through_16 ?_
  refine A_iald hC d_Mo_through_17 ly_96 (by omega) (by omega) ?_
  refine A_tsw (td := 179) [56, 179, 84, 98, 107, 137] hC d_Mo_through_18 (by decide) (by decide) (by decide) ⟨fun h18 => ?_, fun h18 => ?_, fun h18 => ?_, fun h18 => ?_, fun h18 => ?_, fun h18 => ?_, trivial⟩ (fun h18 => ?_)
  · refine A_ald0 hC d_Mo_through_56 ?_
    refine A_ald0 hC d_Mo_through_57 ?_
    refine A_getCR (v := 90) hC d_Mo_through_58 fF_Mo_13 ⟨by decide, rfl⟩ ly_88 (by omega) ⟨rfl, by decide⟩ cv_88_2 ?_
    refine A_bipush hC d_Mo_through_61 (by decide) (by decide) ?_
    refine A_ild2 hC d_Mo_through_63 ?_
    refine A_imul hC d_Mo_through_64 (by omega) ?_
    refine A_iconst hC d_Mo_through_65 (by decide) ?_
    refine A_ald0 hC d_Mo_through_66 ?_
    refine A_getCR (v := 98) hC d_Mo_through_67 fF_Mo_37 ⟨by decide, rfl⟩ ly_88 (by omega) ⟨rfl, by decide⟩ cv_88_11 ?_
    refine A_ild1 hC d_Mo_through_70 ?_
    refine A_iald hC d_Mo_through_71 ly_98 (by omega) (by omega) ?_
    refine A_imul hC d_Mo_through_72 (by omega) ?_
    refine A_iadd hC d_Mo_through_73 (by omega) ?_
    refine A_iconst hC d_Mo_through_74 (by decide) ?_
    refine A_iadd hC d_Mo_through_75 (by omega) ?_
    refine A_iald hC d_Mo_through_76 ly_90 (by omega) (by omega) ?_
    refine A_iconst hC d_Mo_through_77 (by decide) ?_
    refine A_VF0 (as := [.inl (M 90 (((12 * (M 99 ((M 88 13) - 1))) + (3 * (M 98 i))) + 1)), .inl (-1)]) hC d_Mo_through_78 mv_Mo_enter lk_Mo_133 (by decide) sel_Mo_enter hq_Mo ly_88 (by omega) (show AF l m_Mo_enter 1 [.inr 88, .inl (M 90 (((12 * (M 99 ((M 88 13) - 1))) + (3 * (M 98 i))) + 1)), .inl (-1)] n M none (enM M (M 90 (((12 * (M 99 ((M 88 13) - 1))) + (3 * (M 98 i))) + 1)) (-1)) from k_Mo_enter l n M hn (M 90 (((12 * (M 99 ((M 88 13) - 1))) + (3 * (M 98 i))) + 1)) (-1) (by first | omega | (rw [up_nc (by decide)]; omega))) rfl rfl (Nat.le_of_ble_eq_true rfl) ⟨Nat.zero_le _, Nat.zero_le _⟩ rfl ?_
    refine A_goto (tgt := 179) hC d_Mo_through_81 (by decide) ?_
    refine A_ild1 hC d_Mo_through_179 ?_
    refine A_iconst hC d_Mo_through_180 (by decide) ?_
    refine A_iadd hC d_Mo_through_181 (by omega) ?_
    refine A_iret hC d_Mo_through_182 rfl (Nat.le_refl _) (Nat.le_refl _) ?_
    exact ⟨fx_r (by unfold thI; repeat (first | rfl | omega | split)), rfl, by unfold thM; repeat (first | rfl | omega | split)⟩
  · refine A_ild1 hC d_Mo_through_179 ?_
    refine A_iconst hC d_Mo_through_180 (by decide) ?_
    refine A_iadd hC d_Mo_through_181 (by omega) ?_
    refine A_iret hC d_Mo_through_182 rfl (Nat.le_refl _) (Nat.le_refl _) ?_
    exact ⟨fx_r (by unfold thI; repeat (first | rfl | omega | split)), rfl, by unfold thM; repeat (first | rfl | omega | split)⟩
  · refine A_ald0 hC d_Mo_through_84 ?_
    refine A_ald0 hC d_Mo_through_85 ?_
    refine A_getCR (v := 97) hC d_Mo_through_86 fF_Mo_34 ⟨by decide, rfl⟩ ly_88 (by omega) ⟨rfl, by decide⟩ cv_88_10 ?_
    refine A_ild1 hC d_Mo_through_89 ?_
    refine A_iald hC d_Mo_through_90 ly_97 (by omega) (by omega) ?_
    refine A_iconst hC d_Mo_through_91 (by decide) ?_
    refine A_VF0 (as := [.inl (M 97 i), .inl (-1)]) hC d_Mo_through_92 mv_Mo_enter lk_Mo_133 (by decide) sel_Mo_enter hq_Mo ly_88 (by omega) (show AF l m_Mo_enter 1 [.inr 88, .inl (M 97 i), .inl (-1)] n M none (enM M (M 97 i) (-1)) from k_Mo_enter l n M hn (M 97 i) (-1) (by first | omega | (rw [up_nc (by decide)]; omega))) rfl rfl (Nat.le_of_ble_eq_true rfl) ⟨Nat.zero_le _, Nat.zero_le _⟩ rfl ?_
    refine A_goto (tgt := 179) hC d_Mo_through_95 (by decide) ?_
    refine A_ild1 hC d_Mo_through_179 ?_
    refine A_iconst hC d_Mo_through_180 (by decide) ?_
    refine A_iadd hC d_Mo_through_181 (by omega) ?_
    refine A_iret hC d_Mo_through_182 rfl (Nat.le_refl _) (Nat.le_refl _) ?_
    exact ⟨fx_r (by unfold thI; repeat (first | rfl | omega | split)), rfl, by unfold thM; repeat (first | rfl | omega | split)⟩
  · refine A_ald0 hC d_Mo_through_98 ?_
    refine A_ild2 hC d_Mo_through_99 ?_
    refine A_iconst hC d_Mo_through_100 (by decide) ?_
    refine A_VF0 (as := [.inl (M 99 ((M 88 13) - 1)), .inl (-1)]) hC d_Mo_through_101 mv_Mo_enter lk_Mo_133 (by decide) sel_Mo_enter hq_Mo ly_88 (by omega) (show AF l m_Mo_enter 1 [.inr 88, .inl (M 99 ((M 88 13) - 1)), .inl (-1)] n M none (enM M (M 99 ((M 88 13) - 1)) (-1)) from k_Mo_enter l n M hn (M 99 ((M 88 13) - 1)) (-1) (by first | omega | (rw [up_nc (by decide)]; omega))) rfl rfl (Nat.le_of_ble_eq_true rfl) ⟨Nat.zero_le _, Nat.zero_le _⟩ rfl ?_
    refine A_goto (tgt := 179) hC d_Mo_through_104 (by decide) ?_
    refine A_ild1 hC d_Mo_through_179 ?_
    refine A_iconst hC d_Mo_through_180 (by decide) ?_
    refine A_iadd hC d_Mo_through_181 (by omega) ?_
    refine A_iret hC d_Mo_through_182 rfl (Nat.le_refl _) (Nat.le_refl _) ?_
    exact ⟨fx_r (by unfold thI; repeat (first | rfl | omega | split)), rfl, by unfold thM; repeat (first | rfl | omega | split)⟩
  · refine A_ald0 hC d_Mo_through_107 ?_
    refine A_getCR (v := 101) hC d_Mo_through_108 fF_Mo_50 ⟨by decide, rfl⟩ ly_88 (by omega) ⟨rfl, by decide⟩ cv_88_16 ?_
    refine A_ald0 hC d_Mo_through_111 ?_
    refine A_getCR (v := 97) hC d_Mo_through_112 fF_Mo_34 ⟨by decide, rfl⟩ ly_88 (by omega) ⟨rfl, by decide⟩ cv_88_10 ?_
    refine A_ild1 hC d_Mo_through_115 ?_
    refine A_iald hC d_Mo_through_116 ly_97 (by omega) (by omega) ?_
    refine A_iconst hC d_Mo_through_117 (by decide) ?_
    refine A_zast hC d_Mo_through_118 ly_101 (by omega) (by omega) (fun _ => kk_z _) (by first | decide | omega) ?_
    refine A_ald0 hC d_Mo_through_119 ?_
    refine A_ild2 hC d_Mo_through_120 ?_
    refine A_ild1 hC d_Mo_through_121 ?_
    refine A_iconst hC d_Mo_through_122 (by decide) ?_
    refine A_iadd hC d_Mo_through_123 (by omega) ?_
    refine A_VF0 (as := [.inl (M 99 ((M 88 13) - 1)), .inl (i + 1)]) hC d_Mo_through_124 mv_Mo_enter lk_Mo_133 (by decide) sel_Mo_enter hq_Mo ly_88 (by omega) (show AF l m_Mo_enter 1 [.inr 88, .inl (M 99 ((M 88 13) - 1)), .inl (i + 1)] n (up M 101 (M 97 i) 1) none (enM (up M 101 (M 97 i) 1) (M 99 ((M 88 13) - 1)) (i + 1)) from k_Mo_enter l n (up M 101 (M 97 i) 1) hn (M 99 ((M 88 13) - 1)) (i + 1) (by first | omega | (rw [up_nc (by decide)]; omega))) rfl rfl (Nat.le_of_ble_eq_true rfl) ⟨Nat.zero_le _, Nat.zero_le _⟩ rfl ?_
    refine A_bipush hC d_Mo_through_127 (by decide) (by decide) ?_
    refine A_ald0 hC d_Mo_through_129 ?_
    refine A_getCR (v := 97) hC d_Mo_through_130 fF_Mo_34 ⟨by decide, rfl⟩ ly_88 (by omega) ⟨rfl, by decide⟩ cv_88_10 ?_
    refine A_ild1 hC d_Mo_through_133 ?_
    refine A_iald hC d_Mo_through_134 ly_97 (by omega) (by omega) ?_
    refine A_eqi (show _ = M 97 i by rw [enM_n (by decide) (by decide) (Or.inl (by decide)), up_nc (by decide)]) ?_
    refine A_imul hC d_Mo_through_135 (by omega) ?_
    refine A_iret hC d_Mo_through_136 rfl (Nat.le_refl _) (Nat.le_refl _) ?_
    exact ⟨fx_r (by unfold thI; repeat (first | rfl | omega | split)), rfl, by unfold thM; repeat (first | rfl | omega | split)⟩
  · refine A_ald0 hC d_Mo_through_137 ?_
    refine A_dup hC d_Mo_through_138 ?_
    refine A_getI (kI := 13) hC d_Mo_through_139 fF_Mo_130 ⟨by decide, rfl⟩ rfl ly_88 (by omega) ?_
    refine A_iconst hC d_Mo_through_142 (by decide) ?_
    refine A_isub hC d_Mo_through_143 (by omega) ?_
    refine A_putI (kI := 13) hC d_Mo_through_144 fP_Mo_130 ⟨by decide, rfl⟩ rfl ly_88 (by omega) (fun _ => by decide) ?_
    refine A_ald0 hC d_Mo_through_147 ?_
    refine A_getCR (v := 100) hC d_Mo_through_148 fF_Mo_47 ⟨by decide, rfl⟩ ly_88 (by omega) ⟨rfl, by decide⟩ cv_88_15 ?_
    refine A_ald0 hC d_Mo_through_151 ?_
    refine A_getIE (x := (M 88 13) - 1) (kI := 13) hC d_Mo_through_152 fF_Mo_130 ⟨by decide, rfl⟩ rfl ly_88 (by omega) (by rw [up_eq]) ?_
    refine A_ialdE (x := M 100 ((M 88 13) - 1)) hC d_Mo_through_155 ly_100 (by omega) (by omega) (by rw [up_nc (c := 88) (c' := 100) (by decide)]) ?_
    refine A_iflt (tgt := 179) hC d_Mo_through_156 (by decide) (fun h156 => ?_) (fun h156 => ?_)
    · refine A_ild1 hC d_Mo_through_179 ?_
      refine A_iconst hC d_Mo_through_180 (by decide) ?_
      refine A_iadd hC d_Mo_through_181 (by omega) ?_
      refine A_iret hC d_Mo_through_182 rfl (Nat.le_refl _) (Nat.le_refl _) ?_
      exact ⟨fx_r (by unfold thI; repeat (first | rfl | omega | split)), rfl, by unfold thM; repeat (first | rfl | omega | split)⟩
    · refine A_ald0 hC d_Mo_through_159 ?_
      refine A_getCR (v := 101) hC d_Mo_through_160 fF_Mo_50 ⟨by decide, rfl⟩ ly_88 (by omega) ⟨rfl, by decide⟩ cv_88_16 ?_
      refine A_ild1 hC d_Mo_through_163 ?_
      refine A_bipush hC d_Mo_through_164 (by decide) (by decide) ?_
      refine A_idiv hC d_Mo_through_166 (by omega) (by omega) ?_
      refine A_iconst hC d_Mo_through_167 (by decide) ?_
      refine A_zast hC d_Mo_through_168 ly_101 (by omega) (by omega) (fun _ => kk_z _) (by first | decide | omega) ?_
      refine A_ald0 hC d_Mo_through_169 ?_
      refine A_getCR (v := 100) hC d_Mo_through_170 fF_Mo_47 ⟨by decide, rfl⟩ ly_88 (by omega) ⟨rfl, by decide⟩ cv_88_15 ?_
      refine A_ald0 hC d_Mo_through_173 ?_
      refine A_getIE (x := (M 88 13) - 1) (kI := 13) hC d_Mo_through_174 fF_Mo_130 ⟨by decide, rfl⟩ rfl ly_88 (by omega) (by rw [up_nc (c := 101) (c' := 88) (by decide), up_eq]) ?_
      refine A_ialdE (x := M 100 ((M 88 13) - 1)) hC d_Mo_through_177 ly_100 (by omega) (by omega) (by rw [up_nc (c := 101) (c' := 100) (by decide), up_nc (c := 88) (c' := 100) (by decide)]) ?_
      refine A_iret hC d_Mo_through_178 rfl (Nat.le_refl _) (Nat.le_refl _) ?_
      exact ⟨fx_r (by unfold thI; repeat (first | rfl | omega | split)), rfl, by unfold thM; repeat (first | rfl | omega | split)⟩
  · refine A_ild1 hC d_Mo_through_179 ?_
    refine A_iconst hC d_Mo_through_180 (by decide) ?_
    refine A_iadd hC d_Mo_through_181 (by omega) ?_
    refine A_iret hC d_Mo_through_182 rfl (Nat.le_refl _) (Nat.le_refl _) ?_
    exact ⟨fx_r (by unfold thI; repeat (first | rfl | omega | split)), rfl, by unfold thM; repeat (first | rfl | omega | split)⟩
end
section
-- ===== the reference's tables against E
def MT (E M : Mem) : Prop := (∀ i : Int, M 95 i = E 12 i) ∧ (∀ i : Int, M 96 i = E 13 i) ∧ (∀ i : Int, M 97 i = E 14 i) ∧ (∀ i : Int, M 98 i = E 15 i) ∧ M 88 0 = E 1 4 ∧ (∀ t : Int, M 89 t = E 2 t) ∧ ∀ t f : Int, 0 ≤ t → t ≤ 4 → 0 ≤ f → f ≤ 3 → M 90 (12 * t + 3 * f) = E 3 (t * 4 + f) ∧ M 90 (12 * t + 3 * f + 1) = E 4 (t * 4 + f) ∧ M 90 (12 * t + 3 * f + 2) = E 5 (t * 4 + f)
/-- the schema: what was declared is within its bounds -/
def SCH (E : Mem) : Prop := SC E ∧ (∀ t f : Int, hasF E t f → (0 ≤ E 3 (t * 4 + f) ∧ E 3 (t * 4 + f) ≤ 2) ∧ (0 ≤ E 4 (t * 4 + f) ∧ E 4 (t * 4 + f) ≤ 5) ∧ (E 5 (t * 4 + f) = 0 ∨ E 5 (t * 4 + f) = 1)) ∧ ∀ t : Int, E 1 4 ≤ t → E 2 t = 0
theorem kO_in {E : Mem} {t f : Int} (h : ¬ kO E t f = -1) : hasF E t f ∧ kO E t f = E 3 (t * 4 + f) := by
  unfold kO at h ⊢
  split at h
  · rename_i q
    exact ⟨q, by rw [if_pos q]⟩
  · exact absurd rfl h
theorem kO_of {E : Mem} {t f : Int} (h : hasF E t f) : kO E t f = E 3 (t * 4 + f) := by unfold kO; rw [if_pos h]
theorem kO_no {E : Mem} {t f : Int} (h : ¬ hasF E t f) : kO E t f = -1 := by unfold kO; rw [if_neg h]
theorem tO_rg {E : Mem} (hS : SCH E) (t f : Int) : 0 ≤ tO E t f ∧ tO E t f ≤ 5 := by
  unfold tO
  split
  · rename_i h; exact (hS.2.1 t f h).2.1
  · decide
theorem fRm_iff {E M : Mem} {t i : Int} (hM : MT E M) (hS : SCH E) (ht : 0 ≤ t ∧ t ≤ 5) (hb : 0 ≤ E 15 i ∧ E 15 i ≤ 3) : fRm M t i = if (E 13 i = 0 ∧ kO E t (E 15 i) = 0) ∨ (¬ E 13 i = 0 ∧ (kO E t (E 15 i) = 1 ∨ kO E t (E 15 i) = 2)) then 1 else 0 := by
  obtain ⟨m1, m2, m3, m4, m5, m6, m7⟩ := hM
  unfold fRm
  rw [m6, m4, m2]
  have h5 := hS.1.2.1
  by_cases h : hasF E t (E 15 i)
  · have hk := hS.2.1 t (E 15 i) h
    have e := (m7 t (E 15 i) ht.1 (by omega) hb.1 hb.2).1
    rw [kO_of h, if_neg (by omega), e]
    repeat (first | rfl | omega | split)
  · rw [kO_no h]
    have h0 := hS.2.2 t
    by_cases h6 : t = 5 ∨ E 2 t ≤ E 15 i
    · rw [if_pos h6, if_neg (by omega)]
    · exfalso
      apply h
      refine ⟨⟨ht.1, ?_⟩, hb.1, by omega⟩
      rcases Int.lt_or_le t (E 1 4) with q | q
      · exact q
      · have := h0 q
        omega
theorem mRt_iff {E M : Mem} {t i : Int} {u : Int → Int} (hM : MT E M) (hS : SCH E) (ht : 0 ≤ t ∧ t ≤ 5) (hk : tokP (E 13 i) (E 14 i) (E 15 i)) (hu : ∀ j : Int, 1 ≤ j → j ≤ 3 → M 101 j = u j) : mRt M t i = 0 ↔ ¬ rgtP E t i u := by
  have hM' := hM
  obtain ⟨m1, m2, m3, m4, m5, m6, m7⟩ := hM
  have e1 : M 96 = E 13 := funext m2
  have e2 : M 95 = E 12 := funext m1
  unfold mRt
  rw [e1, e2, m3, m5]
  by_cases h0 : E 13 i = 0 ∨ E 13 i = 1
  · rw [if_pos h0, fRm_iff hM' hS ht (by omega)]
    constructor
    · intro h hr
      have r1 := hr.1
      have r2 := hr.2.1
      split at h <;> omega
    · intro h
      split
      · rename_i q
        exfalso
        apply h
        exact ⟨fun _ => by omega, fun _ => by omega, fun _ => by omega, fun _ => by omega⟩
      · rfl
  · rw [if_neg h0]
    by_cases h3 : E 13 i = 3
    · rw [if_pos h3]
      constructor
      · intro h hr
        have r3 := hr.2.2.1 h3
        split at h <;> omega
      · intro h
        split
        · rename_i q
          exfalso
          apply h
          exact ⟨fun _ => by omega, fun _ => by omega, fun _ => ⟨by omega, q.2⟩, fun _ => by omega⟩
        · rfl
    · rw [if_neg h3]
      by_cases h5 : E 13 i = 5
      · rw [if_pos h5]
        have hu' := hu (E 14 i) (by omega) (by omega)
        constructor
        · intro h hr
          have r5 := hr.2.2.2 h5
          split at h <;> omega
        · intro h
          split
          · rename_i q
            exfalso
            apply h
            have h01 := gdF_01 (E 13) (E 12 (E 14 i)).toNat (16 * E 14 i) 1
            have hg : gd (E 13) (E 12) (E 14 i) = 1 := by
              have := q.1
              unfold gd at this ⊢
              omega
            exact ⟨fun _ => by omega, fun _ => by omega, fun _ => by omega, fun _ => ⟨hg, by rw [← hu']; exact q.2⟩⟩
          · rfl
      · rw [if_neg h5]
        constructor
        · intro h; omega
        · intro h
          exfalso
          apply h
          exact ⟨fun _ => by omega, fun _ => by omega, fun _ => by omega, fun _ => by omega⟩
/-- the reference's open SETS stand in its arrays -/
def arS (M : Mem) : List Fr → Prop
  | [] => True
  | a :: st => M 99 st.length = a.1 ∧ M 100 st.length = a.2.1 ∧ arS M st
theorem arS_eq {M M' : Mem} : ∀ (st : List Fr), (∀ j : Int, 0 ≤ j → j < st.length → M' 99 j = M 99 j ∧ M' 100 j = M 100 j) → arS M st → arS M' st
  | [], _, _ => trivial
  | a :: st, h, ⟨h1, h2, h3⟩ => by
    have e := h st.length (by omega) (by simp only [List.length_cons]; omega)
    exact ⟨by rw [e.1]; exact h1, by rw [e.2]; exact h2, arS_eq st (fun j b1 b2 => h j b1 (by simp only [List.length_cons]; omega)) h3⟩
theorem arS_en {M : Mem} {st : List Fr} {t b k : Int} (hz : M 88 13 = st.length) (h : arS M st) : arS (enM M t b) ((t, b, k) :: st) := by
  have e99 : ∀ j : Int, enM M t b 99 j = if j = M 88 13 then t else M 99 j := fun j => by
    unfold enM
    rw [up_nc (by decide), up_nc (by decide)]
    unfold up
    by_cases q : j = M 88 13
    · rw [if_pos ⟨rfl, q⟩, if_pos q]
    · rw [if_neg (fun z => q z.2), if_neg q]
  have e100 : ∀ j : Int, enM M t b 100 j = if j = M 88 13 then b else M 100 j := fun j => by
    unfold enM
    rw [up_nc (by decide)]
    unfold up
    by_cases q : j = M 88 13
    · rw [if_pos ⟨rfl, q⟩, if_pos q]
    · rw [if_neg (fun z => q z.2), if_neg q, if_neg (by omega)]
  refine ⟨by rw [e99, if_pos hz.symm], by rw [e100, if_pos hz.symm], arS_eq st (fun j b1 b2 => ?_) h⟩
  rw [e99, e100, if_neg (by omega), if_neg (by omega)]
  exact ⟨rfl, rfl⟩
theorem enM_z {M : Mem} {t b : Int} : enM M t b 88 13 = M 88 13 + 1 := by unfold enM; rw [up_eq]
theorem th_step {E M : Mem} {a : Fr} {st : List Fr} {k i : Int} {u : Int → Int} (hM : MT E M) (hS : SCH E) (har : arS M (a :: st)) (hz : M 88 13 = ((a :: st).length : Nat)) (hi : 0 ≤ i ∧ i ≤ 63) (hk : tokP (E 13 i) (E 14 i) (E 15 i)) (hr : rgtP E a.1 i u) (hrg : ∀ x ∈ a :: st, 0 ≤ x.1 ∧ x.1 ≤ 5) (hu : ∀ j : Int, 1 ≤ j → j ≤ 3 → M 101 j = u j) :
    arS (thM M i) (nxS E k i (a :: st)) ∧ thM M i 88 13 = ((nxS E k i (a :: st)).length : Nat) ∧ thI M i = nxI E i (a :: st) ∧ (∀ x ∈ nxS E k i (a :: st), 0 ≤ x.1 ∧ x.1 ≤ 5) ∧ (∀ j : Int, 1 ≤ j → j ≤ 3 → thM M i 101 j = nxU E i (a :: st) u j) ∧ ∀ c j : Int, c ≠ 99 → c ≠ 100 → c ≠ 101 → (c ≠ 88 ∨ j ≠ 13) → thM M i c j = M c j := by
  obtain ⟨m1, m2, m3, m4, m5, m6, m7⟩ := hM
  obtain ⟨h1, h2, h3⟩ := har
  have hz' : M 88 13 = (st.length : Int) + 1 := by rw [hz]; simp
  have eT : M 99 (M 88 13 - 1) = a.1 := by rw [hz', show (st.length : Int) + 1 - 1 = st.length by omega]; exact h1
  have eB : M 100 (M 88 13 - 1) = a.2.1 := by rw [hz', show (st.length : Int) + 1 - 1 = st.length by omega]; exact h2
  have har' : arS M (a :: st) := ⟨h1, h2, h3⟩
  have ha := hrg a List.mem_cons_self
  have eI : thI M i = nxI E i (a :: st) := by
    unfold thI nxI
    rw [m2, m3, eB]
    rfl
  have eN : ∀ t b : Int, ∀ c j : Int, c ≠ 99 → c ≠ 100 → c ≠ 101 → (c ≠ 88 ∨ j ≠ 13) → enM M t b c j = M c j := fun t b c j g1 g2 _ g3 => enM_n g1 g2 g3
  have push : ∀ t b : Int, (0 ≤ t ∧ t ≤ 5) → arS (enM M t b) ((t, b, k) :: a :: st) ∧ enM M t b 88 13 = (((t, b, k) :: a :: st).length : Nat) ∧ (∀ x ∈ (t, b, k) :: a :: st, 0 ≤ x.1 ∧ x.1 ≤ 5) ∧ ∀ j : Int, 1 ≤ j → j ≤ 3 → enM M t b 101 j = u j := by
    intro t b htb
    refine ⟨arS_en hz har', by rw [enM_z, hz]; simp, fun x hx => ?_, fun j j1 j2 => by rw [enM_n (by decide) (by decide) (Or.inl (by decide))]; exact hu j j1 j2⟩
    rcases List.mem_cons.mp hx with rfl | hx
    · exact htb
    · exact hrg x hx
  by_cases o1 : E 13 i = 1
  · have eM : thM M i = enM M (tO E a.1 (E 15 i)) (-1) := by
      unfold thM
      rw [m2, if_pos o1, eT, m4]
      have hh := (kO_in (E := E) (t := a.1) (f := E 15 i) (by have := hr.2.1 o1; omega)).1
      have h5 := hS.1.2.1
      have e := (m7 a.1 (E 15 i) ha.1 (by omega) (by omega) (by omega)).2.1
      unfold tO
      rw [if_pos hh, e]
    have eS : nxS E k i (a :: st) = (tO E a.1 (E 15 i), -1, k) :: a :: st := by unfold nxS; rw [if_pos o1]; rfl
    have eU : nxU E i (a :: st) u = u := by unfold nxU; rw [if_neg (by omega), if_neg (by omega)]
    rw [eM, eS, eU]
    obtain ⟨p1, p2, p3, p4⟩ := push (tO E a.1 (E 15 i)) (-1) (tO_rg hS _ _)
    exact ⟨p1, p2, eI, p3, p4, eN _ _⟩
  by_cases o3 : E 13 i = 3
  · have eM : thM M i = enM M (E 14 i) (-1) := by unfold thM; rw [m2, if_neg o1, if_pos o3, m3]
    have eS : nxS E k i (a :: st) = (E 14 i, -1, k) :: a :: st := by unfold nxS; rw [if_neg o1, if_pos o3]
    have eU : nxU E i (a :: st) u = u := by unfold nxU; rw [if_neg (by omega), if_neg (by omega)]
    rw [eM, eS, eU]
    obtain ⟨p1, p2, p3, p4⟩ := push (E 14 i) (-1) (by omega)
    exact ⟨p1, p2, eI, p3, p4, eN _ _⟩
  by_cases o4 : E 13 i = 4
  · have eM : thM M i = enM M a.1 (-1) := by unfold thM; rw [m2, if_neg o1, if_neg o3, if_pos o4, eT]
    have eS : nxS E k i (a :: st) = (a.1, -1, k) :: a :: st := by unfold nxS; rw [if_neg o1, if_neg o3, if_pos o4]; rfl
    have eU : nxU E i (a :: st) u = u := by unfold nxU; rw [if_neg (by omega), if_neg (by omega)]
    rw [eM, eS, eU]
    obtain ⟨p1, p2, p3, p4⟩ := push a.1 (-1) ha
    exact ⟨p1, p2, eI, p3, p4, eN _ _⟩
  by_cases o5 : E 13 i = 5
  · have eM : thM M i = enM (up M 101 (E 14 i) 1) a.1 (i + 1) := by unfold thM; rw [m2, if_neg o1, if_neg o3, if_neg o4, if_pos o5, m3, eT]
    have eS : nxS E k i (a :: st) = (a.1, i + 1, k) :: a :: st := by unfold nxS; rw [if_neg o1, if_neg o3, if_neg o4, if_pos o5]; rfl
    have eU : nxU E i (a :: st) u = fun f => if f = E 14 i then 1 else u f := by unfold nxU; rw [if_pos o5]
    rw [eM, eS, eU]
    refine ⟨arS_en (by rw [up_nc (by decide)]; exact hz) (arS_eq (M := M) _ (fun j _ _ => ⟨up_nc (by decide), up_nc (by decide)⟩) har'), by rw [enM_z, up_nc (by decide), hz]; simp, eI, fun x hx => ?_, fun j j1 j2 => ?_, fun c j g1 g2 g3 g4 => by rw [enM_n g1 g2 g4, up_nc g3]⟩
    · rcases List.mem_cons.mp hx with rfl | hx
      · exact ha
      · exact hrg x hx
    · rw [enM_n (by decide) (by decide) (Or.inl (by decide))]
      unfold up
      dsimp only
      by_cases q : j = E 14 i
      · rw [if_pos ⟨rfl, q⟩, if_pos q]
      · rw [if_neg (fun z => q z.2), if_neg q]
        exact hu j j1 j2
  by_cases o6 : E 13 i = 6
  · have eS : nxS E k i (a :: st) = st := by unfold nxS; rw [if_neg o1, if_neg o3, if_neg o4, if_neg o5, if_pos o6]; rfl
    have hb : (topF (a :: st)).2.1 = a.2.1 := rfl
    rw [eS]
    by_cases b0 : 0 ≤ a.2.1
    · have eM : thM M i = up (up M 88 13 (M 88 13 - 1)) 101 (i / 16) 0 := by unfold thM; rw [m2, if_neg o1, if_neg o3, if_neg o4, if_neg o5, if_pos o6, eB, if_pos b0]
      have eU : nxU E i (a :: st) u = fun f => if f = i / 16 then 0 else u f := by unfold nxU; rw [if_neg o5, if_pos ⟨o6, by rw [hb]; exact b0⟩]
      rw [eM, eU]
      refine ⟨arS_eq (M := M) _ (fun j _ _ => ⟨by rw [up_nc (by decide), up_nc (by decide)], by rw [up_nc (by decide), up_nc (by decide)]⟩) h3, by rw [up_nc (by decide), up_eq, hz']; omega, eI, fun x hx => hrg x (List.mem_cons_of_mem _ hx), fun j j1 j2 => ?_, fun c j g1 g2 g3 g4 => by rw [up_nc g3]; exact g4.elim (fun h => up_nc h) (fun h => up_nk h)⟩
      unfold up
      dsimp only
      by_cases q : j = i / 16
      · rw [if_pos ⟨rfl, q⟩, if_pos q]
      · rw [if_neg (fun z => q z.2), if_neg q, if_neg (by omega)]
        exact hu j j1 j2
    · have eM : thM M i = up M 88 13 (M 88 13 - 1) := by unfold thM; rw [m2, if_neg o1, if_neg o3, if_neg o4, if_neg o5, if_pos o6, eB, if_neg b0]
      have eU : nxU E i (a :: st) u = u := by unfold nxU; rw [if_neg o5, if_neg (fun z => b0 (by have := z.2; rw [hb] at this; exact this))]
      rw [eM, eU]
      exact ⟨arS_eq (M := M) _ (fun j _ _ => ⟨up_nc (by decide), up_nc (by decide)⟩) h3, by rw [up_eq, hz']; omega, eI, fun x hx => hrg x (List.mem_cons_of_mem _ hx), fun j j1 j2 => by rw [up_nc (by decide)]; exact hu j j1 j2, fun c j g1 g2 g3 g4 => g4.elim (fun h => up_nc h) (fun h => up_nk h)⟩
  have eM : thM M i = M := by unfold thM; rw [m2, if_neg o1, if_neg o3, if_neg o4, if_neg o5, if_neg o6]
  have eS : nxS E k i (a :: st) = a :: st := by unfold nxS; rw [if_neg o1, if_neg o3, if_neg o4, if_neg o5, if_neg o6]
  have eU : nxU E i (a :: st) u = u := by unfold nxU; rw [if_neg o5, if_neg (fun z => o6 z.1)]
  rw [eM, eS, eU]
  exact ⟨har', hz, eI, hrg, hu, fun _ _ _ _ _ _ => rfl⟩
end
