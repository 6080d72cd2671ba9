section
-- PART A of the skeleton, the printed rows on exceptions, the printed names (starting texts of the claim)
/-- a private method of a class that the tables say can be made, by its rows of tables_1 -/
def lw_okq (q : MethodName × Nat) : Prop := (q.1.cls ≠ "java/lang/invoke/MethodHandle" ∧ q.1.cls ≠ "java/lang/invoke/VarHandle") ∧ Cond.instantiable q.1.cls q.2 ∈ tables_1 ∧ Cond.privateMethod q.1 ∈ tables_1 ∧ Cond.instanceMethod q.1 ∈ tables_1
theorem lw_p0 : lw_okq (⟨"java/lang/Throwable", "fillInStackTrace", "(I)Ljava/lang/Throwable;"⟩, 6) := ⟨⟨by decide +kernel, by decide +kernel⟩, List.mem_of_getElem? (i := 238) (by decide +kernel), List.mem_of_getElem? (i := 236) (by decide +kernel), List.mem_of_getElem? (i := 237) (by decide +kernel)⟩
theorem lw_p1 : lw_okq (⟨"VariantKit", "requireRecord", "(I)V"⟩, 8) := ⟨⟨by decide +kernel, by decide +kernel⟩, List.mem_of_getElem? (i := 18) (by decide +kernel), List.mem_of_getElem? (i := 420) (by decide +kernel), List.mem_of_getElem? (i := 421) (by decide +kernel)⟩
theorem lw_p2 : lw_okq (⟨"VariantKit$Variant", "trimEnd", "(LVariantKit$Reference;)Z"⟩, 9) := ⟨⟨by decide +kernel, by decide +kernel⟩, List.mem_of_getElem? (i := 48) (by decide +kernel), List.mem_of_getElem? (i := 441) (by decide +kernel), List.mem_of_getElem? (i := 442) (by decide +kernel)⟩
theorem lw_p3 : lw_okq (⟨"VariantKit$Variant", "isLastBaseShared", "()Z"⟩, 9) := ⟨⟨by decide +kernel, by decide +kernel⟩, List.mem_of_getElem? (i := 48) (by decide +kernel), List.mem_of_getElem? (i := 445) (by decide +kernel), List.mem_of_getElem? (i := 446) (by decide +kernel)⟩
theorem lw_p4 : lw_okq (⟨"VariantKit$Variant", "shortest", "()I"⟩, 9) := ⟨⟨by decide +kernel, by decide +kernel⟩, List.mem_of_getElem? (i := 48) (by decide +kernel), List.mem_of_getElem? (i := 449) (by decide +kernel), List.mem_of_getElem? (i := 450) (by decide +kernel)⟩
theorem lw_p5 : lw_okq (⟨"VariantKit$Variant", "putInFront", "(I)V"⟩, 9) := ⟨⟨by decide +kernel, by decide +kernel⟩, List.mem_of_getElem? (i := 48) (by decide +kernel), List.mem_of_getElem? (i := 457) (by decide +kernel), List.mem_of_getElem? (i := 458) (by decide +kernel)⟩
theorem lw_p6 : lw_okq (⟨"VariantKit$Variant", "trimFront", "()Z"⟩, 9) := ⟨⟨by decide +kernel, by decide +kernel⟩, List.mem_of_getElem? (i := 48) (by decide +kernel), List.mem_of_getElem? (i := 461) (by decide +kernel), List.mem_of_getElem? (i := 462) (by decide +kernel)⟩
theorem lw_p7 : lw_okq (⟨"VariantKit$Variant", "isFirstBaseShared", "()Z"⟩, 9) := ⟨⟨by decide +kernel, by decide +kernel⟩, List.mem_of_getElem? (i := 48) (by decide +kernel), List.mem_of_getElem? (i := 465) (by decide +kernel), List.mem_of_getElem? (i := 466) (by decide +kernel)⟩
theorem lw_p8 : lw_okq (⟨"VariantKit$Joiner", "uniteAlleles", "()Z"⟩, 4) := ⟨⟨by decide +kernel, by decide +kernel⟩, List.mem_of_getElem? (i := 121) (by decide +kernel), List.mem_of_getElem? (i := 535) (by decide +kernel), List.mem_of_getElem? (i := 536) (by decide +kernel)⟩
theorem lw_p9 : lw_okq (⟨"VariantKit$Joiner", "uniteDepths", "()V"⟩, 4) := ⟨⟨by decide +kernel, by decide +kernel⟩, List.mem_of_getElem? (i := 121) (by decide +kernel), List.mem_of_getElem? (i := 542) (by decide +kernel), List.mem_of_getElem? (i := 543) (by decide +kernel)⟩
theorem lw_p10 : lw_okq (⟨"VariantKit$Joiner", "uniteGenotypes", "()V"⟩, 4) := ⟨⟨by decide +kernel, by decide +kernel⟩, List.mem_of_getElem? (i := 121) (by decide +kernel), List.mem_of_getElem? (i := 547) (by decide +kernel), List.mem_of_getElem? (i := 548) (by decide +kernel)⟩
theorem lw_p11 : lw_okq (⟨"VariantKit$Joiner", "unitedAllele", "(II)I"⟩, 4) := ⟨⟨by decide +kernel, by decide +kernel⟩, List.mem_of_getElem? (i := 121) (by decide +kernel), List.mem_of_getElem? (i := 551) (by decide +kernel), List.mem_of_getElem? (i := 552) (by decide +kernel)⟩
theorem lw_p12 : lw_okq (⟨"VariantKit$Joiner", "uniteLikelihoods", "()V"⟩, 4) := ⟨⟨by decide +kernel, by decide +kernel⟩, List.mem_of_getElem? (i := 121) (by decide +kernel), List.mem_of_getElem? (i := 555) (by decide +kernel), List.mem_of_getElem? (i := 556) (by decide +kernel)⟩
theorem lw_p13 : lw_okq (⟨"VariantKit$ByteRow", "putNumber", "(II)V"⟩, 3) := ⟨⟨by decide +kernel, by decide +kernel⟩, List.mem_of_getElem? (i := 143) (by decide +kernel), List.mem_of_getElem? (i := 576) (by decide +kernel), List.mem_of_getElem? (i := 577) (by decide +kernel)⟩
theorem lw_p14 : lw_okq (⟨"VariantKit$ByteRow", "putAllele", "(II)V"⟩, 3) := ⟨⟨by decide +kernel, by decide +kernel⟩, List.mem_of_getElem? (i := 143) (by decide +kernel), List.mem_of_getElem? (i := 584) (by decide +kernel), List.mem_of_getElem? (i := 585) (by decide +kernel)⟩
theorem lw_p15 : lw_okq (⟨"VariantKit$ByteRow", "putNumbers", "([III)V"⟩, 3) := ⟨⟨by decide +kernel, by decide +kernel⟩, List.mem_of_getElem? (i := 143) (by decide +kernel), List.mem_of_getElem? (i := 591) (by decide +kernel), List.mem_of_getElem? (i := 592) (by decide +kernel)⟩
def lw_privs_1 : List (MethodName × Nat) := [(⟨"java/lang/Throwable", "fillInStackTrace", "(I)Ljava/lang/Throwable;"⟩, 6), (⟨"VariantKit", "requireRecord", "(I)V"⟩, 8), (⟨"VariantKit$Variant", "trimEnd", "(LVariantKit$Reference;)Z"⟩, 9), (⟨"VariantKit$Variant", "isLastBaseShared", "()Z"⟩, 9), (⟨"VariantKit$Variant", "shortest", "()I"⟩, 9), (⟨"VariantKit$Variant", "putInFront", "(I)V"⟩, 9), (⟨"VariantKit$Variant", "trimFront", "()Z"⟩, 9), (⟨"VariantKit$Variant", "isFirstBaseShared", "()Z"⟩, 9), (⟨"VariantKit$Joiner", "uniteAlleles", "()Z"⟩, 4), (⟨"VariantKit$Joiner", "uniteDepths", "()V"⟩, 4), (⟨"VariantKit$Joiner", "uniteGenotypes", "()V"⟩, 4), (⟨"VariantKit$Joiner", "unitedAllele", "(II)I"⟩, 4), (⟨"VariantKit$Joiner", "uniteLikelihoods", "()V"⟩, 4), (⟨"VariantKit$ByteRow", "putNumber", "(II)V"⟩, 3), (⟨"VariantKit$ByteRow", "putAllele", "(II)V"⟩, 3), (⟨"VariantKit$ByteRow", "putNumbers", "([III)V"⟩, 3)]
theorem lw_r1 : ∀ q ∈ lw_privs_1, lw_okq q := List.forall_mem_cons.mpr ⟨lw_p0, List.forall_mem_cons.mpr ⟨lw_p1, List.forall_mem_cons.mpr ⟨lw_p2, List.forall_mem_cons.mpr ⟨lw_p3, List.forall_mem_cons.mpr ⟨lw_p4, List.forall_mem_cons.mpr ⟨lw_p5, List.forall_mem_cons.mpr ⟨lw_p6, List.forall_mem_cons.mpr ⟨lw_p7, List.forall_mem_cons.mpr ⟨lw_p8, List.forall_mem_cons.mpr ⟨lw_p9, List.forall_mem_cons.mpr ⟨lw_p10, List.forall_mem_cons.mpr ⟨lw_p11, List.forall_mem_cons.mpr ⟨lw_p12, List.forall_mem_cons.mpr ⟨lw_p13, List.forall_mem_cons.mpr ⟨lw_p14, List.forall_mem_cons.mpr ⟨lw_p15, fun _ h => absurd h List.not_mem_nil⟩⟩⟩⟩⟩⟩⟩⟩⟩⟩⟩⟩⟩⟩⟩⟩
theorem lw_p16 : lw_okq (⟨"VariantKit", "takeTyped", "()Z"⟩, 8) := ⟨⟨by decide +kernel, by decide +kernel⟩, List.mem_of_getElem? (i := 18) (by decide +kernel), List.mem_of_getElem? (i := 628) (by decide +kernel), List.mem_of_getElem? (i := 629) (by decide +kernel)⟩
theorem lw_p17 : lw_okq (⟨"VariantKit$ByteRow", "takeNumber", "(I)I"⟩, 3) := ⟨⟨by decide +kernel, by decide +kernel⟩, List.mem_of_getElem? (i := 143) (by decide +kernel), List.mem_of_getElem? (i := 637) (by decide +kernel), List.mem_of_getElem? (i := 638) (by decide +kernel)⟩
theorem lw_p18 : lw_okq (⟨"VariantKit$ByteRow", "take", "()I"⟩, 3) := ⟨⟨by decide +kernel, by decide +kernel⟩, List.mem_of_getElem? (i := 143) (by decide +kernel), List.mem_of_getElem? (i := 641) (by decide +kernel), List.mem_of_getElem? (i := 642) (by decide +kernel)⟩
theorem lw_p19 : lw_okq (⟨"VariantKit$ByteRow", "takeAlleles", "(LVariantKit$Variant;LVariantKit$Reference;)Z"⟩, 3) := ⟨⟨by decide +kernel, by decide +kernel⟩, List.mem_of_getElem? (i := 143) (by decide +kernel), List.mem_of_getElem? (i := 645) (by decide +kernel), List.mem_of_getElem? (i := 646) (by decide +kernel)⟩
theorem lw_p20 : lw_okq (⟨"VariantKit$ByteRow", "takeBases", "(I)I"⟩, 3) := ⟨⟨by decide +kernel, by decide +kernel⟩, List.mem_of_getElem? (i := 143) (by decide +kernel), List.mem_of_getElem? (i := 649) (by decide +kernel), List.mem_of_getElem? (i := 650) (by decide +kernel)⟩
theorem lw_p21 : lw_okq (⟨"VariantKit$ByteRow", "takeNumbers", "([IIII)Z"⟩, 3) := ⟨⟨by decide +kernel, by decide +kernel⟩, List.mem_of_getElem? (i := 143) (by decide +kernel), List.mem_of_getElem? (i := 657) (by decide +kernel), List.mem_of_getElem? (i := 658) (by decide +kernel)⟩
theorem lw_p22 : lw_okq (⟨"VariantKit$ByteRow", "takeGenotype", "(LVariantKit$Variant;I)Z"⟩, 3) := ⟨⟨by decide +kernel, by decide +kernel⟩, List.mem_of_getElem? (i := 143) (by decide +kernel), List.mem_of_getElem? (i := 661) (by decide +kernel), List.mem_of_getElem? (i := 662) (by decide +kernel)⟩
theorem lw_p23 : lw_okq (⟨"VariantKitModel", "throwing", "(ZZ)Z"⟩, 11) := ⟨⟨by decide +kernel, by decide +kernel⟩, List.mem_of_getElem? (i := 720) (by decide +kernel), List.mem_of_getElem? (i := 768) (by decide +kernel), List.mem_of_getElem? (i := 769) (by decide +kernel)⟩
theorem lw_p24 : lw_okq (⟨"VariantKitModel", "empty", "(II)V"⟩, 11) := ⟨⟨by decide +kernel, by decide +kernel⟩, List.mem_of_getElem? (i := 720) (by decide +kernel), List.mem_of_getElem? (i := 777) (by decide +kernel), List.mem_of_getElem? (i := 778) (by decide +kernel)⟩
theorem lw_p25 : lw_okq (⟨"VariantKitModel", "put", "(III)V"⟩, 11) := ⟨⟨by decide +kernel, by decide +kernel⟩, List.mem_of_getElem? (i := 720) (by decide +kernel), List.mem_of_getElem? (i := 781) (by decide +kernel), List.mem_of_getElem? (i := 782) (by decide +kernel)⟩
theorem lw_p26 : lw_okq (⟨"VariantKitModel", "referenceFrom", "(II)I"⟩, 11) := ⟨⟨by decide +kernel, by decide +kernel⟩, List.mem_of_getElem? (i := 720) (by decide +kernel), List.mem_of_getElem? (i := 785) (by decide +kernel), List.mem_of_getElem? (i := 786) (by decide +kernel)⟩
theorem lw_p27 : lw_okq (⟨"VariantKitModel", "addAllele", "(III)V"⟩, 11) := ⟨⟨by decide +kernel, by decide +kernel⟩, List.mem_of_getElem? (i := 720) (by decide +kernel), List.mem_of_getElem? (i := 789) (by decide +kernel), List.mem_of_getElem? (i := 790) (by decide +kernel)⟩
theorem lw_p28 : lw_okq (⟨"VariantKitModel", "get", "(II)I"⟩, 11) := ⟨⟨by decide +kernel, by decide +kernel⟩, List.mem_of_getElem? (i := 720) (by decide +kernel), List.mem_of_getElem? (i := 793) (by decide +kernel), List.mem_of_getElem? (i := 794) (by decide +kernel)⟩
theorem lw_p29 : lw_okq (⟨"VariantKitModel", "findAllele", "(III)I"⟩, 11) := ⟨⟨by decide +kernel, by decide +kernel⟩, List.mem_of_getElem? (i := 720) (by decide +kernel), List.mem_of_getElem? (i := 801) (by decide +kernel), List.mem_of_getElem? (i := 802) (by decide +kernel)⟩
theorem lw_p30 : lw_okq (⟨"VariantKitModel", "enter", "(I)I"⟩, 11) := ⟨⟨by decide +kernel, by decide +kernel⟩, List.mem_of_getElem? (i := 720) (by decide +kernel), List.mem_of_getElem? (i := 827) (by decide +kernel), List.mem_of_getElem? (i := 828) (by decide +kernel)⟩
theorem lw_p31 : lw_okq (⟨"VariantKitModel", "open", "(I)V"⟩, 11) := ⟨⟨by decide +kernel, by decide +kernel⟩, List.mem_of_getElem? (i := 720) (by decide +kernel), List.mem_of_getElem? (i := 831) (by decide +kernel), List.mem_of_getElem? (i := 832) (by decide +kernel)⟩
def lw_privs_2 : List (MethodName × Nat) := [(⟨"VariantKit", "takeTyped", "()Z"⟩, 8), (⟨"VariantKit$ByteRow", "takeNumber", "(I)I"⟩, 3), (⟨"VariantKit$ByteRow", "take", "()I"⟩, 3), (⟨"VariantKit$ByteRow", "takeAlleles", "(LVariantKit$Variant;LVariantKit$Reference;)Z"⟩, 3), (⟨"VariantKit$ByteRow", "takeBases", "(I)I"⟩, 3), (⟨"VariantKit$ByteRow", "takeNumbers", "([IIII)Z"⟩, 3), (⟨"VariantKit$ByteRow", "takeGenotype", "(LVariantKit$Variant;I)Z"⟩, 3), (⟨"VariantKitModel", "throwing", "(ZZ)Z"⟩, 11), (⟨"VariantKitModel", "empty", "(II)V"⟩, 11), (⟨"VariantKitModel", "put", "(III)V"⟩, 11), (⟨"VariantKitModel", "referenceFrom", "(II)I"⟩, 11), (⟨"VariantKitModel", "addAllele", "(III)V"⟩, 11), (⟨"VariantKitModel", "get", "(II)I"⟩, 11), (⟨"VariantKitModel", "findAllele", "(III)I"⟩, 11), (⟨"VariantKitModel", "enter", "(I)I"⟩, 11), (⟨"VariantKitModel", "open", "(I)V"⟩, 11)]
theorem lw_r2 : ∀ q ∈ lw_privs_2, lw_okq q := List.forall_mem_cons.mpr ⟨lw_p16, List.forall_mem_cons.mpr ⟨lw_p17, List.forall_mem_cons.mpr ⟨lw_p18, List.forall_mem_cons.mpr ⟨lw_p19, List.forall_mem_cons.mpr ⟨lw_p20, List.forall_mem_cons.mpr ⟨lw_p21, List.forall_mem_cons.mpr ⟨lw_p22, List.forall_mem_cons.mpr ⟨lw_p23, List.forall_mem_cons.mpr ⟨lw_p24, List.forall_mem_cons.mpr ⟨lw_p25, List.forall_mem_cons.mpr ⟨lw_p26, List.forall_mem_cons.mpr ⟨lw_p27, List.forall_mem_cons.mpr ⟨lw_p28, List.forall_mem_cons.mpr ⟨lw_p29, List.forall_mem_cons.mpr ⟨lw_p30, List.forall_mem_cons.mpr ⟨lw_p31, fun _ h => absurd h List.not_mem_nil⟩⟩⟩⟩⟩⟩⟩⟩⟩⟩⟩⟩⟩⟩⟩⟩
theorem lw_p32 : lw_okq (⟨"VariantKitModel", "copy", "(II)V"⟩, 11) := ⟨⟨by decide +kernel, by decide +kernel⟩, List.mem_of_getElem? (i := 720) (by decide +kernel), List.mem_of_getElem? (i := 835) (by decide +kernel), List.mem_of_getElem? (i := 836) (by decide +kernel)⟩
theorem lw_p33 : lw_okq (⟨"VariantKitModel", "close", "(I)V"⟩, 11) := ⟨⟨by decide +kernel, by decide +kernel⟩, List.mem_of_getElem? (i := 720) (by decide +kernel), List.mem_of_getElem? (i := 843) (by decide +kernel), List.mem_of_getElem? (i := 844) (by decide +kernel)⟩
theorem lw_p34 : lw_okq (⟨"VariantKitModel", "step", "(I)Z"⟩, 11) := ⟨⟨by decide +kernel, by decide +kernel⟩, List.mem_of_getElem? (i := 720) (by decide +kernel), List.mem_of_getElem? (i := 851) (by decide +kernel), List.mem_of_getElem? (i := 852) (by decide +kernel)⟩
theorem lw_p35 : lw_okq (⟨"VariantKitModel", "shortest", "(I)I"⟩, 11) := ⟨⟨by decide +kernel, by decide +kernel⟩, List.mem_of_getElem? (i := 720) (by decide +kernel), List.mem_of_getElem? (i := 855) (by decide +kernel), List.mem_of_getElem? (i := 856) (by decide +kernel)⟩
theorem lw_p36 : lw_okq (⟨"VariantKitModel", "same", "(IZ)Z"⟩, 11) := ⟨⟨by decide +kernel, by decide +kernel⟩, List.mem_of_getElem? (i := 720) (by decide +kernel), List.mem_of_getElem? (i := 859) (by decide +kernel), List.mem_of_getElem? (i := 860) (by decide +kernel)⟩
theorem lw_p37 : lw_okq (⟨"VariantKitModel", "edge", "(IIZ)I"⟩, 11) := ⟨⟨by decide +kernel, by decide +kernel⟩, List.mem_of_getElem? (i := 720) (by decide +kernel), List.mem_of_getElem? (i := 863) (by decide +kernel), List.mem_of_getElem? (i := 864) (by decide +kernel)⟩
theorem lw_p38 : lw_okq (⟨"VariantKitModel", "part", "(II)V"⟩, 11) := ⟨⟨by decide +kernel, by decide +kernel⟩, List.mem_of_getElem? (i := 720) (by decide +kernel), List.mem_of_getElem? (i := 871) (by decide +kernel), List.mem_of_getElem? (i := 872) (by decide +kernel)⟩
theorem lw_p39 : lw_okq (⟨"VariantKitModel", "gather", "(II)Z"⟩, 11) := ⟨⟨by decide +kernel, by decide +kernel⟩, List.mem_of_getElem? (i := 720) (by decide +kernel), List.mem_of_getElem? (i := 882) (by decide +kernel), List.mem_of_getElem? (i := 883) (by decide +kernel)⟩
theorem lw_p40 : lw_okq (⟨"VariantKitModel", "back", "(III)I"⟩, 11) := ⟨⟨by decide +kernel, by decide +kernel⟩, List.mem_of_getElem? (i := 720) (by decide +kernel), List.mem_of_getElem? (i := 886) (by decide +kernel), List.mem_of_getElem? (i := 887) (by decide +kernel)⟩
theorem lw_p41 : lw_okq (⟨"VariantKitModel", "joinSample", "(III)V"⟩, 11) := ⟨⟨by decide +kernel, by decide +kernel⟩, List.mem_of_getElem? (i := 720) (by decide +kernel), List.mem_of_getElem? (i := 890) (by decide +kernel), List.mem_of_getElem? (i := 891) (by decide +kernel)⟩
theorem lw_p42 : lw_okq (⟨"VariantKitModel", "likely", "(IIIII)I"⟩, 11) := ⟨⟨by decide +kernel, by decide +kernel⟩, List.mem_of_getElem? (i := 720) (by decide +kernel), List.mem_of_getElem? (i := 894) (by decide +kernel), List.mem_of_getElem? (i := 895) (by decide +kernel)⟩
theorem lw_p43 : lw_okq (⟨"VariantKitModel", "writeOut", "(I)V"⟩, 11) := ⟨⟨by decide +kernel, by decide +kernel⟩, List.mem_of_getElem? (i := 720) (by decide +kernel), List.mem_of_getElem? (i := 902) (by decide +kernel), List.mem_of_getElem? (i := 903) (by decide +kernel)⟩
theorem lw_p44 : lw_okq (⟨"VariantKitModel", "write", "(I)V"⟩, 11) := ⟨⟨by decide +kernel, by decide +kernel⟩, List.mem_of_getElem? (i := 720) (by decide +kernel), List.mem_of_getElem? (i := 906) (by decide +kernel), List.mem_of_getElem? (i := 907) (by decide +kernel)⟩
theorem lw_p45 : lw_okq (⟨"VariantKitModel", "writeRow", "(III)V"⟩, 11) := ⟨⟨by decide +kernel, by decide +kernel⟩, List.mem_of_getElem? (i := 720) (by decide +kernel), List.mem_of_getElem? (i := 913) (by decide +kernel), List.mem_of_getElem? (i := 914) (by decide +kernel)⟩
theorem lw_p46 : lw_okq (⟨"VariantKitModel", "taken", "()Z"⟩, 11) := ⟨⟨by decide +kernel, by decide +kernel⟩, List.mem_of_getElem? (i := 720) (by decide +kernel), List.mem_of_getElem? (i := 926) (by decide +kernel), List.mem_of_getElem? (i := 927) (by decide +kernel)⟩
theorem lw_p47 : lw_okq (⟨"VariantKitModel", "twoAt", "(I)I"⟩, 11) := ⟨⟨by decide +kernel, by decide +kernel⟩, List.mem_of_getElem? (i := 720) (by decide +kernel), List.mem_of_getElem? (i := 930) (by decide +kernel), List.mem_of_getElem? (i := 931) (by decide +kernel)⟩
def lw_privs_3 : List (MethodName × Nat) := [(⟨"VariantKitModel", "copy", "(II)V"⟩, 11), (⟨"VariantKitModel", "close", "(I)V"⟩, 11), (⟨"VariantKitModel", "step", "(I)Z"⟩, 11), (⟨"VariantKitModel", "shortest", "(I)I"⟩, 11), (⟨"VariantKitModel", "same", "(IZ)Z"⟩, 11), (⟨"VariantKitModel", "edge", "(IIZ)I"⟩, 11), (⟨"VariantKitModel", "part", "(II)V"⟩, 11), (⟨"VariantKitModel", "gather", "(II)Z"⟩, 11), (⟨"VariantKitModel", "back", "(III)I"⟩, 11), (⟨"VariantKitModel", "joinSample", "(III)V"⟩, 11), (⟨"VariantKitModel", "likely", "(IIIII)I"⟩, 11), (⟨"VariantKitModel", "writeOut", "(I)V"⟩, 11), (⟨"VariantKitModel", "write", "(I)V"⟩, 11), (⟨"VariantKitModel", "writeRow", "(III)V"⟩, 11), (⟨"VariantKitModel", "taken", "()Z"⟩, 11), (⟨"VariantKitModel", "twoAt", "(I)I"⟩, 11)]
theorem lw_r3 : ∀ q ∈ lw_privs_3, lw_okq q := List.forall_mem_cons.mpr ⟨lw_p32, List.forall_mem_cons.mpr ⟨lw_p33, List.forall_mem_cons.mpr ⟨lw_p34, List.forall_mem_cons.mpr ⟨lw_p35, List.forall_mem_cons.mpr ⟨lw_p36, List.forall_mem_cons.mpr ⟨lw_p37, List.forall_mem_cons.mpr ⟨lw_p38, List.forall_mem_cons.mpr ⟨lw_p39, List.forall_mem_cons.mpr ⟨lw_p40, List.forall_mem_cons.mpr ⟨lw_p41, List.forall_mem_cons.mpr ⟨lw_p42, List.forall_mem_cons.mpr ⟨lw_p43, List.forall_mem_cons.mpr ⟨lw_p44, List.forall_mem_cons.mpr ⟨lw_p45, List.forall_mem_cons.mpr ⟨lw_p46, List.forall_mem_cons.mpr ⟨lw_p47, fun _ h => absurd h List.not_mem_nil⟩⟩⟩⟩⟩⟩⟩⟩⟩⟩⟩⟩⟩⟩⟩⟩
theorem lw_p48 : lw_okq (⟨"VariantKitModel", "byteAt", "(I)I"⟩, 11) := ⟨⟨by decide +kernel, by decide +kernel⟩, List.mem_of_getElem? (i := 720) (by decide +kernel), List.mem_of_getElem? (i := 934) (by decide +kernel), List.mem_of_getElem? (i := 935) (by decide +kernel)⟩
theorem lw_p49 : lw_okq (⟨"VariantKitModel", "readRow", "(III)I"⟩, 11) := ⟨⟨by decide +kernel, by decide +kernel⟩, List.mem_of_getElem? (i := 720) (by decide +kernel), List.mem_of_getElem? (i := 941) (by decide +kernel), List.mem_of_getElem? (i := 942) (by decide +kernel)⟩
theorem lw_p50 : lw_okq (⟨"VariantKitModel", "inRange", "(I)Z"⟩, 11) := ⟨⟨by decide +kernel, by decide +kernel⟩, List.mem_of_getElem? (i := 720) (by decide +kernel), List.mem_of_getElem? (i := 945) (by decide +kernel), List.mem_of_getElem? (i := 946) (by decide +kernel)⟩
theorem lw_p51 : lw_okq (⟨"VariantKitModel", "binOf", "(I)I"⟩, 11) := ⟨⟨by decide +kernel, by decide +kernel⟩, List.mem_of_getElem? (i := 720) (by decide +kernel), List.mem_of_getElem? (i := 957) (by decide +kernel), List.mem_of_getElem? (i := 958) (by decide +kernel)⟩
theorem lw_p52 : lw_okq (⟨"VariantKitModel", "isBad", "(II)Z"⟩, 11) := ⟨⟨by decide +kernel, by decide +kernel⟩, List.mem_of_getElem? (i := 720) (by decide +kernel), List.mem_of_getElem? (i := 969) (by decide +kernel), List.mem_of_getElem? (i := 970) (by decide +kernel)⟩
theorem lw_p53 : lw_okq (⟨"VariantKitModel", "spans", "(III)Z"⟩, 11) := ⟨⟨by decide +kernel, by decide +kernel⟩, List.mem_of_getElem? (i := 720) (by decide +kernel), List.mem_of_getElem? (i := 973) (by decide +kernel), List.mem_of_getElem? (i := 974) (by decide +kernel)⟩
def lw_privs_4 : List (MethodName × Nat) := [(⟨"VariantKitModel", "byteAt", "(I)I"⟩, 11), (⟨"VariantKitModel", "readRow", "(III)I"⟩, 11), (⟨"VariantKitModel", "inRange", "(I)Z"⟩, 11), (⟨"VariantKitModel", "binOf", "(I)I"⟩, 11), (⟨"VariantKitModel", "isBad", "(II)Z"⟩, 11), (⟨"VariantKitModel", "spans", "(III)Z"⟩, 11)]
theorem lw_r4 : ∀ q ∈ lw_privs_4, lw_okq q := List.forall_mem_cons.mpr ⟨lw_p48, List.forall_mem_cons.mpr ⟨lw_p49, List.forall_mem_cons.mpr ⟨lw_p50, List.forall_mem_cons.mpr ⟨lw_p51, List.forall_mem_cons.mpr ⟨lw_p52, List.forall_mem_cons.mpr ⟨lw_p53, fun _ h => absurd h List.not_mem_nil⟩⟩⟩⟩⟩⟩
def lw_privs : List (MethodName × Nat) := lw_privs_1 ++ (lw_privs_2 ++ (lw_privs_3 ++ (lw_privs_4)))
def lw_tbl : List Cond := k2_sels lw_privs ++ tables_1
theorem lw_privs_ok : ∀ q ∈ lw_privs, lw_okq q := by
  show ∀ q ∈ lw_privs_1 ++ (lw_privs_2 ++ (lw_privs_3 ++ (lw_privs_4))), lw_okq q
  exact List.forall_mem_append.mpr ⟨lw_r1, List.forall_mem_append.mpr ⟨lw_r2, List.forall_mem_append.mpr ⟨lw_r3, lw_r4⟩⟩⟩

/-! ===== BEGIN words of one list among another's, by their places ===== -/
theorem goodIn_r {big : List Cond} (ws : List Cond) (ps : List Nat) (hp : ws = ps.filterMap (fun i => big[i]?)) (h : ws.all goodWord = true) : GoodIn big ws := by
  intro w hw
  have h1 := List.all_eq_true.mp h w hw
  rw [hp] at hw
  obtain ⟨i, -, hi⟩ := List.mem_filterMap.mp hw
  have hm : w ∈ big := by first | exact List.mem_of_getElem? hi | exact List.getElem?_mem hi
  exact ⟨hm, good_of_word h1⟩
theorem goodIn_app {big a b : List Cond} (ha : GoodIn big a) (hb : GoodIn big b) : GoodIn big (a ++ b) := fun w h => (List.mem_append.mp h).elim (ha w) (hb w)
theorem goodIn_ca {big a b : List Cond} {c : Cond} (ha : GoodIn big (c :: a)) (hb : GoodIn big b) : GoodIn big (c :: (a ++ b)) := fun w h => (List.mem_cons.mp h).elim (fun e => ha w (List.mem_cons.mpr (Or.inl e))) (fun h => (List.mem_append.mp h).elim (fun h => ha w (List.mem_cons.mpr (Or.inr h))) (hb w))
theorem goodIn_sub {big ws : List Cond} (hm : ∀ w ∈ ws, w ∈ big) (h : ws.all goodWord = true) : GoodIn big ws := fun w hw => ⟨hm w hw, good_of_word (List.all_eq_true.mp h w hw)⟩
/-! ===== END ===== -/

/-! ===== BEGIN exceptions that leave a method, and their catching by the caller (launches without stack traces) ===== -/
section VXA
/-! The laws vx_back, vx_callV, vx_callS, vx_callSW, vx_throw0, vx_throwS follow proofs of the library, with one case more: JvmDerived/Free/Laws.lean (Back.of_free), Shelf42/LK1.lean (callV, callS), Shelf/KitTraced.lean (throwNew0V, throwNewS). -/
/-- where a method has thrown q: the class by its name, the cell, what was written, the world -/
def vx_T (XC : String → State → State → Prop) (st : State) (q : Addr) (t : State) (mc ms : Nat) (free : Addr → Prop) : Prop :=
  ∃ (E : String) (ce : Cell) (L : List Loc), XC E st t ∧ t.heap[q]? = some ce ∧ ce.vm = .none ∧ st.vm.findClass E = some ce.cls ∧ st.WarmedH t.vm ∧ st.sameButNew ({ t with vm := st.vm } : State) L mc ms ∧ ∀ z ∈ L, free z.base
def vx_Q (Qc : Array Value → State → Outcome → State → Prop) (XC : String → State → State → Prop) (mc ms : Nat) (free : Addr → Prop) : Array Value → State → Outcome → State → Prop := fun a st o t =>
  (Qc a st o t ∧ ∃ L, FrameEnd st o t L mc ms ∧ ∀ q ∈ L, free q.base) ∨ ∃ q, o = .threw q ∧ vx_T XC st q t mc ms free
/-- a callee that returns or throws -/
def vx_Met (l : Launch) (y : MethodName) (ws : List Cond) (rm : Room) (Pc : Array Value → State → Prop) (Qc : Array Value → State → Outcome → State → Prop) (XC : String → State → State → Prop) (mc ms : Nat) (free : Addr → Prop) : Prop :=
  MetFree l y (headSpec ws rm) Pc (fun _ _ _ _ _ => True) (vx_Q Qc XC mc ms free)
def vx_Post (XC : String → State → State → Prop) (mc ms : Nat) (free : Addr → Prop) : Pt → Array Value → Addr → Pt → Prop := fun A a q B =>
  ∃ (g : JFrame) (mk : MethodId) (t : State) (L : List Loc) (E : String) (ce : Cell), B.U.heap = t.heap ∧ B.U.vm = t.vm ∧ XC E (A.U.calling g mk a) t ∧ t.heap[q]? = some ce ∧ ce.vm = .none ∧ A.U.vm.findClass E = some ce.cls ∧ B.locs = A.locs ++ L ∧ (∀ z ∈ L, free z.base) ∧ B.cells = A.cells + mc ∧ B.slots = A.slots + ms
def vx_Back (l : Launch) (R : Room) (p : Program) (e : Env) (below : List Frame) (s : State) (sargs : Array Value) (y : MethodName) (len W9 : Nat)
    (Pre : Pt → Array Value → Prop) (Post : Pt → Array Value → Option Value → Pt → Prop) (PostX : Pt → Array Value → Addr → Pt → Prop) : Prop :=
  ∀ (m : MethodId) (meth : Method) (c : Code) (A : Pt) (g : JFrame) (ig : Instr) (mk : MethodId) (a : Array Value),
    Stand p l e R s m sargs below meth c A.U A.locs A.cells A.slots → g.method = m → g.locals.size = c.maxLocals → decode c.code g.pc = .ok (ig, len) →
    2 * g.monitorRoom + (g.stack.map fun v => v.category).sum ≤ W9 → A.U.methodNamed? y = some mk → Pre A a →
    (∃ (v : Option Value) (B : Pt), Stand p l e R s m sargs below meth c B.U B.locs B.cells B.slots ∧ Post A a v B ∧
      Steps p.tables e below (doInvoke e (A.U.setTop g) [] mk a).1 (B.U.setTop { g with pc := g.pc + len, stack := v.toList ++ g.stack })) ∨
    (∃ (q : Addr) (B : Pt), Stand p l e R s m sargs below meth c B.U B.locs B.cells B.slots ∧ PostX A a q B ∧
      Steps p.tables e below (doInvoke e (A.U.setTop g) [] mk a).1 ((B.U.setTop g).pushFrame (.throwing q)))
section Payer
variable {l : Launch} {R : Room} {p : Program} {e : Env} {below : List Frame} {s : State} {sargs : Array Value} {y : MethodName} {len W9 : Nat}
theorem vx_back {ws : List Cond} {rm : Room} {Pc : Array Value → State → Prop} {Qc : Array Value → State → Outcome → State → Prop} {XC : String → State → State → Prop} {mc ms : Nat} {free : Addr → Prop} {bytes : ByteArray} {maxL : Nat} {ret : Option FieldType}
    (hM : vx_Met l y ws rm Pc Qc XC mc ms free) (hblind : FrameBlind Pc) (hrc : rm.cells = mc) (hrs : rm.slots = ms)
    (hframes : rm.frames + 1 ≤ R.frames) (hlocals : W9 + (maxL + 11) + rm.locals ≤ R.locals)
    (hws : ∀ w ∈ ws, ∀ a' U, s.WarmedH U.vm → w.before a' U = true) (hcode : Cond.code y bytes maxL ret ∈ ws) (hinit : ∀ a' U, s.WarmedH U.vm → (Cond.initialized y.cls).before a' U = true) :
    vx_Back l R p e below s sargs y len W9 (PreOf R mc ms Pc) (PostOf Qc mc ms free) (vx_Post XC mc ms free) := by
  intro m meth c A g ig mk a X hg hsize hdg hW hn hp
  have h1 : (headSpec ws rm).pre.before a A.U = true := atoms_intro fun w hw => hws w hw _ _ X.warmed
  have h2 : (Cond.code y bytes maxL ret).before a A.U = true := hws _ hcode _ _ X.warmed
  have h3 : (Cond.initialized y.cls).before a A.U = true := hinit _ _ X.warmed
  have h4 : A.cells + (headSpec ws rm).room.cells ≤ R.cells := by rw [show (headSpec ws rm).room.cells = mc from hrc]; exact hp.1
  have h5 : A.slots + (headSpec ws rm).room.slots ≤ R.slots := by rw [show (headSpec ws rm).room.slots = ms from hrs]; exact hp.2.1
  have hPc : Pc a (A.U.calling g mk a) := hblind _ _ _ _ hp.2.2
  obtain ⟨U, Ls, c0, s0⟩ := A
  dsimp only [Pt.U, Pt.locs, Pt.cells, Pt.slots] at h1 h2 h3 h4 h5 X hn hPc ⊢
  obtain ⟨methY, cY, hmY, hcY, -, hlY, -, -, -, -⟩ := Cond.code_spec hn h2
  obtain ⟨kY, hkY, -⟩ := className_of_methodNamed hn
  have hinitY : kY.init = .initialized := Cond.initialized_spec (findClass_of_methodNamed hn) hkY h3
  have h : At U g.method c below := by rw [hg]; exact X.here
  have hlocals9 : W9 + (maxL + 11) + (headSpec ws rm).room.locals ≤ R.locals := hlocals
  have happ : (headSpec ws rm).appliesLoose y e.platform (U.calling g mk a) = true :=
    Spec.appliesLoose_calling (g := g) h hdg hn hkY hinitY
      (X.room_calling (g := g) (R' := (headSpec ws rm).room) hsize hmY hcY hframes (by rw [hlY]; omega) h4 h5) h1
  obtain ⟨mid, hmid⟩ := h.above
  have hfr : (U.setTop g).frames = (.java g :: mid) ++ below := by rw [State.frames_setTop' g h.top, hmid]; rfl
  obtain ⟨o, s₂, hsteps, -, hend, hq⟩ := Steps.callFree hM p X.admits X.cas X.clock (acts := []) hfr happ hPc trivial
  have hq' : vx_Q Qc XC mc ms free a (U.calling g mk a) o s₂ := hq
  rw [State.frames_setTop' g h.top] at hend
  obtain ⟨g₀, hg0⟩ := Option.isSome_iff_exists.mp h.top
  obtain ⟨r, hr⟩ := State.topJava?_eq_some.mp hg0
  have hr' : (({ U with heap := s₂.heap, slotsUsed := s₂.slotsUsed } : State).setVm s₂.vm).frames = .java g₀ :: r := hr
  rcases hq' with ⟨hqc, L, hfe, hL⟩ | ⟨q, rfl, E, ce, L, hx, hce, hcv, hcl, hW₂, hsm, hL⟩
  · obtain ⟨⟨v, rfl⟩, hW₂, e2, q2, q3, q4, q5, q6⟩ := id hfe
    have e3 : s₂ = ({ (U.calling g mk a).setFrames s₂.frames with heap := s₂.heap, slotsUsed := s₂.slotsUsed } : State).setVm s₂.vm := by
      have : s₂ = ({ s₂ with vm := (U.calling g mk a).vm } : State).setVm s₂.vm := rfl
      rw [e2] at this
      exact this
    obtain ⟨c₂, i₂, len₂, hc₂, hd₂, hf₂⟩ := hend
    have hW' : U.WarmedH s₂.vm := hW₂
    have hcc : c₂ = c := by
      have h1 : s₂.code? g.method = U.code? g.method := by
        rw [State.code?_eq, State.code?_eq, hW'.alike.method?]
      exact Option.some.inj (hc₂.symm.trans (h1.trans h.code))
    subst hcc
    have hlen : len₂ = len := by rw [hdg] at hd₂; cases hd₂; rfl
    subst hlen
    have hs₂ : s₂ = (({ U with heap := s₂.heap, slotsUsed := s₂.slotsUsed } : State).setVm s₂.vm).setTop { g with pc := g.pc + len₂, stack := v.toList ++ g.stack } := by
      refine e3.trans ?_
      rw [hf₂, State.calling_eq h.top, State.setFrames_setFrames, State.setTop_of_frames _ hr', hr]
      rfl
    have hsame : U.sameButNew ({ U with heap := s₂.heap, slotsUsed := s₂.slotsUsed } : State) L mc ms := by
      refine ⟨?_, q2, q3, q4, q5, q6⟩
      obtain ⟨t, ht, -⟩ := State.frames_cons hr
      show ({ U with heap := s₂.heap, slotsUsed := s₂.slotsUsed } : State) = { U.setFrames U.frames with heap := s₂.heap, slotsUsed := s₂.slotsUsed }
      rw [State.setFrames_self ht]
    subst hg
    refine Or.inl ⟨v, ⟨(({ U with heap := s₂.heap, slotsUsed := s₂.slotsUsed } : State).setVm s₂.vm), Ls ++ L, c0 + mc, s0 + ms⟩,
      ⟨X.admits, X.cas, X.clock, X.frames, X.room, X.hears, X.method, X.code, (X.here.setHeapUsed s₂.heap s₂.slotsUsed).setVm hW'.alike, X.tail, State.WarmedH.trans X.warmed hW', X.limits, X.bytes, X.same.trans (hsame.setVm s.vm)⟩,
      ⟨g, mk, s₂, L, rfl, rfl, hqc, rfl, hL, rfl, rfl⟩, ?_⟩
    show Steps p.tables e below _ ((({ U with heap := s₂.heap, slotsUsed := s₂.slotsUsed } : State).setVm s₂.vm).setTop { g with pc := g.pc + len₂, stack := v.toList ++ g.stack })
    rw [← hs₂]
    exact hsteps
  · obtain ⟨e2, q2, q3, q4, q5, q6⟩ := id hsm
    have e3 : s₂ = ({ (U.calling g mk a).setFrames s₂.frames with heap := s₂.heap, slotsUsed := s₂.slotsUsed } : State).setVm s₂.vm := by
      have : s₂ = ({ s₂ with vm := (U.calling g mk a).vm } : State).setVm s₂.vm := rfl
      rw [e2] at this
      exact this
    have hf₂ : s₂.frames = .throwing q :: .java g :: U.frames.tail := hend
    have hW' : U.WarmedH s₂.vm := hW₂
    have hs₂ : s₂ = ((({ U with heap := s₂.heap, slotsUsed := s₂.slotsUsed } : State).setVm s₂.vm).setTop g).pushFrame (.throwing q) := by
      refine e3.trans ?_
      rw [hf₂, State.calling_eq h.top, State.setFrames_setFrames, State.pushFrame, State.frames_setTop _ hr', State.setTop_of_frames _ hr', State.setFrames_setFrames, hr]
      rfl
    have hsame : U.sameButNew ({ U with heap := s₂.heap, slotsUsed := s₂.slotsUsed } : State) L mc ms := by
      refine ⟨?_, q2, q3, q4, q5, q6⟩
      obtain ⟨t, ht, -⟩ := State.frames_cons hr
      show ({ U with heap := s₂.heap, slotsUsed := s₂.slotsUsed } : State) = { U.setFrames U.frames with heap := s₂.heap, slotsUsed := s₂.slotsUsed }
      rw [State.setFrames_self ht]
    subst hg
    refine Or.inr ⟨q, ⟨(({ U with heap := s₂.heap, slotsUsed := s₂.slotsUsed } : State).setVm s₂.vm), Ls ++ L, c0 + mc, s0 + ms⟩,
      ⟨X.admits, X.cas, X.clock, X.frames, X.room, X.hears, X.method, X.code, (X.here.setHeapUsed s₂.heap s₂.slotsUsed).setVm hW'.alike, X.tail, State.WarmedH.trans X.warmed hW', X.limits, X.bytes, X.same.trans (hsame.setVm s.vm)⟩,
      ⟨g, mk, s₂, L, E, ce, rfl, rfl, hx, hce, hcv, hcl, rfl, hL, rfl, rfl⟩, ?_⟩
    show Steps p.tables e below _ (((({ U with heap := s₂.heap, slotsUsed := s₂.slotsUsed } : State).setVm s₂.vm).setTop g).pushFrame (.throwing q))
    rw [← hs₂]
    exact hsteps
end Payer
section Calls
variable {p : Program} {l : Launch} {e : Env} {R : Room} {s : State} {m : MethodId} {args : Array Value} {below : List Frame} {meth : Method} {c : Code} {T : State} {locs : List Loc} {cells slots : Nat}
theorem vx_callV (X : Stand p l e R s m args below meth c T locs cells slots) (hexec : p.tables.exec = Jvm.exec) {own C : String} {index : Nat} {y : MethodName} {bytes : ByteArray} {maxL : Nat} {ret : Option FieldType}
    (hown : s.vm.findClass own = some m.cls) (hlink : (Cond.methodLink own index y).before args s = true) (hinst : (Cond.instanceMethod y).before args s = true) (hsel : (Cond.selects C y y).before args s = true)
    (hcode : (Cond.code y bytes maxL ret).before args s = true) (hy : y.cls ≠ "java/lang/invoke/MethodHandle" ∧ y.cls ≠ "java/lang/invoke/VarHandle")
    {W9 : Nat} {Pre : Pt → Array Value → Prop} {Post : Pt → Array Value → Option Value → Pt → Prop} {PostX : Pt → Array Value → Addr → Pt → Prop} (hK : vx_Back l R p e below s args y 3 W9 Pre Post PostX)
    {b : Addr} {cellB : Cell} (hcell : T.heap[b]? = some cellB) (hobj : cellB.vm.isStatics = false) (hcls : s.vm.findClass C = some cellB.cls)
    {g : JFrame} (hg : g.method = m) (hsize : g.locals.size = c.maxLocals) {argsL rest : List Value} (hlen : ∀ sig, parseMethodDescriptor y.desc = some sig → argsL.length = sig.parameters.length)
    (hstack : g.stack = argsL.reverse ++ .ref b :: rest) (hW : 2 * g.monitorRoom + (rest.map fun v => v.category).sum ≤ W9) (hdg : decode c.code g.pc = .ok (.invokevirtual index, 3))
    (hpre : ∀ vm₁, s.WarmedH vm₁ → Pre ⟨T.setVm vm₁, locs, cells, slots⟩ (Value.ref b :: argsL).toArray) :
    (∃ (v : Option Value) (vm₁ : Vm) (B : Pt), s.WarmedH vm₁ ∧ Stand p l e R s m args below meth c B.U B.locs B.cells B.slots ∧ Post ⟨T.setVm vm₁, locs, cells, slots⟩ (Value.ref b :: argsL).toArray v B ∧
      ∀ target, Steps p.tables e below (B.U.setTop { g with pc := g.pc + 3, stack := v.toList ++ rest }) target → Steps p.tables e below (T.setTop g) target) ∨
    (∃ (q : Addr) (vm₁ : Vm) (B : Pt), s.WarmedH vm₁ ∧ Stand p l e R s m args below meth c B.U B.locs B.cells B.slots ∧ PostX ⟨T.setVm vm₁, locs, cells, slots⟩ (Value.ref b :: argsL).toArray q B ∧
      Steps p.tables e below (T.setTop g) ((B.U.setTop { g with stack := rest }).pushFrame (.throwing q))) := by
  obtain ⟨mk, methM, hnamed, hmethM, hstM, habM⟩ := Cond.instanceMethod_spec hinst
  obtain ⟨methM', cM, hmethM', -, -, -, -, -, -, hsigM⟩ := Cond.code_spec hnamed hcode
  cases hmethM.symm.trans hmethM'
  obtain ⟨c2, r2, m2, q1, q2, q3, q4, kP, hkP, hkPi⟩ := Cond.selects_spec hsel
  cases hcls.symm.trans q1
  cases (State.methodFound?_of_named hnamed hy).symm.trans q2
  cases hnamed.symm.trans q3
  have hselP : selectMethod e.platform s.vm cellB.cls mk = .method mk := by rw [Launch.admits_selectMethod X.admits]; exact q4
  obtain ⟨vm₁, X₁, hstep₁⟩ := X.invokevirtual hexec hown hlink hnamed hmethM hstM hkP hkPi hy (a := b) (cell := cellB) hcell
    (fun z h => by rw [h] at hobj; cases hobj) hselP hmethM habM hkP hkPi (g := g) hg (argsL := argsL) (rest := rest) (hlen _ hsigM) hstack hdg
  rcases hK m meth c ⟨T.setVm vm₁, locs, cells, slots⟩ { g with stack := rest } (.invokevirtual index) mk (Value.ref b :: argsL).toArray X₁ hg hsize hdg hW (X₁.named hnamed) (hpre vm₁ X₁.warmed) with ⟨v, B, X', hpost, hsteps⟩ | ⟨q, B, X', hpost, hsteps⟩
  · exact Or.inl ⟨v, vm₁, B, X₁.warmed, X', hpost, fun target h => hstep₁ _ fun acts => by rw [doInvoke_state]; exact hsteps.trans h⟩
  · exact Or.inr ⟨q, vm₁, B, X₁.warmed, X', hpost, hstep₁ _ fun acts => by rw [doInvoke_state]; exact hsteps⟩
theorem vx_callS (X : Stand p l e R s m args below meth c T locs cells slots) (hexec : p.tables.exec = Jvm.exec) {own : String} {index : Nat} {y : MethodName} {bytes : ByteArray} {maxL : Nat} {ret : Option FieldType}
    (hown : s.vm.findClass own = some m.cls) (hlink : (Cond.methodLink own index y).before args s = true) (hstat : (Cond.static y).before args s = true) (hinit : (Cond.initialized y.cls).before args s = true)
    (hcode : (Cond.code y bytes maxL ret).before args s = true) (hy : y.cls ≠ "java/lang/invoke/MethodHandle" ∧ y.cls ≠ "java/lang/invoke/VarHandle")
    {W9 : Nat} {Pre : Pt → Array Value → Prop} {Post : Pt → Array Value → Option Value → Pt → Prop} {PostX : Pt → Array Value → Addr → Pt → Prop} (hK : vx_Back l R p e below s args y 3 W9 Pre Post PostX)
    {g : JFrame} (hg : g.method = m) (hsize : g.locals.size = c.maxLocals) {argsL rest : List Value} (hlen : ∀ sig, parseMethodDescriptor y.desc = some sig → argsL.length = sig.parameters.length)
    (hstack : g.stack = argsL.reverse ++ rest) (hW : 2 * g.monitorRoom + (rest.map fun v => v.category).sum ≤ W9) (hdg : decode c.code g.pc = .ok (.invokestatic index, 3))
    (hpre : ∀ vm₁, s.WarmedH vm₁ → Pre ⟨T.setVm vm₁, locs, cells, slots⟩ argsL.toArray) :
    (∃ (v : Option Value) (vm₁ : Vm) (B : Pt), s.WarmedH vm₁ ∧ Stand p l e R s m args below meth c B.U B.locs B.cells B.slots ∧ Post ⟨T.setVm vm₁, locs, cells, slots⟩ argsL.toArray v B ∧
      ∀ target, Steps p.tables e below (B.U.setTop { g with pc := g.pc + 3, stack := v.toList ++ rest }) target → Steps p.tables e below (T.setTop g) target) ∨
    (∃ (q : Addr) (vm₁ : Vm) (B : Pt), s.WarmedH vm₁ ∧ Stand p l e R s m args below meth c B.U B.locs B.cells B.slots ∧ PostX ⟨T.setVm vm₁, locs, cells, slots⟩ argsL.toArray q B ∧
      Steps p.tables e below (T.setTop g) ((B.U.setTop { g with stack := rest }).pushFrame (.throwing q))) := by
  obtain ⟨mk, hnamed⟩ := Cond.code_named hcode
  obtain ⟨methM, cM, hmethM, -, -, -, -, -, -, hsigM⟩ := Cond.code_spec hnamed hcode
  have hstatic : methM.isStatic = true := Cond.static_spec hnamed hmethM hstat
  obtain ⟨kP, hkP, -⟩ := className_of_methodNamed hnamed
  have hinitP : kP.init = .initialized := Cond.initialized_spec (findClass_of_methodNamed hnamed) hkP hinit
  obtain ⟨vm₁, X₁, hstep₁⟩ := X.invokestatic hexec hown hlink hnamed hmethM hstatic hkP hinitP hy (g := g) hg (argsL := argsL) (rest := rest) (hlen _ hsigM) hstack hdg
  rcases hK m meth c ⟨T.setVm vm₁, locs, cells, slots⟩ { g with stack := rest } (.invokestatic index) mk argsL.toArray X₁ hg hsize hdg hW (X₁.named hnamed) (hpre vm₁ X₁.warmed) with ⟨v, B, X', hpost, hsteps⟩ | ⟨q, B, X', hpost, hsteps⟩
  · exact Or.inl ⟨v, vm₁, B, X₁.warmed, X', hpost, fun target h => hstep₁ _ fun acts => by rw [doInvoke_state]; exact hsteps.trans h⟩
  · exact Or.inr ⟨q, vm₁, B, X₁.warmed, X', hpost, hstep₁ _ fun acts => by rw [doInvoke_state]; exact hsteps⟩
end Calls
theorem vx_cls {s : State} {T : State} {vm₁ : Vm} {E : String} {k : ClassId} (hW : s.WarmedH vm₁) (h : (T.setVm vm₁).vm.findClass E = some k) : s.vm.findClass E = some k := by
  have h1 : vm₁.findClass E = some k := h
  rw [hW.alike.findClass] at h1
  exact h1
/-- the method's frame g, with q thrown over it -/
def vx_W (p : Program) (l : Launch) (e : Env) (R : Room) (s : State) (m : MethodId) (args : Array Value) (below : List Frame) (meth : Method) (c : Code) (H : Heap) (locs : List Loc) (cells slots : Nat) (Q : State → Prop) (g : JFrame) (q : Addr) : Prop :=
  ∀ T : State, T.heap = H → Stand p l e R s m args below meth c T locs cells slots → ∃ t, Steps p.tables e below ((T.setTop g).pushFrame (.throwing q)) t ∧ Q t
def vx_Run (p : Program) (l : Launch) (e : Env) (R : Room) (s : State) (m : MethodId) (args : Array Value) (below : List Frame) (meth : Method) (c : Code) (H : Heap) (locs : List Loc) (cells slots mc ms : Nat) (g : JFrame) (rest : List Value) (Qa : State → Outcome → State → Prop) (XC : String → State → State → Prop) (free : Addr → Prop) : Prop :=
  ∀ T : State, T.heap = H → Stand p l e R s m args below meth c T locs cells slots →
    (∃ (v : Option Value) (st₀ t T' : State) (L : List Loc), st₀.heap = H ∧ Stand p l e R s m args below meth c T' (locs ++ L) (cells + mc) (slots + ms) ∧ (∀ q ∈ L, free q.base) ∧ T'.heap = t.heap ∧ T'.vm = t.vm ∧ Qa st₀ (.returned v) t ∧
      Goes p e below T g T' { g with pc := g.pc + 3, stack := v.toList ++ rest }) ∨
    (∃ (q : Addr) (st₀ t T' : State) (L : List Loc) (E : String) (ce : Cell), st₀.heap = H ∧ Stand p l e R s m args below meth c T' (locs ++ L) (cells + mc) (slots + ms) ∧ (∀ z ∈ L, free z.base) ∧ T'.heap = t.heap ∧ T'.vm = t.vm ∧ XC E st₀ t ∧ t.heap[q]? = some ce ∧ ce.vm = .none ∧ s.vm.findClass E = some ce.cls ∧
      Steps p.tables e below (T.setTop g) ((T'.setTop { g with stack := rest }).pushFrame (.throwing q)))
def vx_X {S : Type} (px : S → Prop) (B : String → S → State → Prop) (A : Nat → Prop) : String → State → State → Prop := fun E st t => ∃ u : S, px u ∧ B E u t ∧ va_F A st t
section Runs
variable {p : Program} {l : Launch} {e : Env} {R : Room} {s : State} {m : MethodId} {args : Array Value} {below : List Frame} {meth : Method} {c : Code} {H : Heap} {locs : List Loc} {cells slots : Nat}
variable {y : MethodName} {bytes cc : ByteArray} {maxL nL mc ms n index : Nat} {ret : Option FieldType} {ws : List Cond} {rm : Room} {Pc : Array Value → State → Prop} {Qc : Array Value → State → Outcome → State → Prop} {XC : String → State → State → Prop} {free : Addr → Prop} {Ts : List Cond} {own C : String} {b : Addr} {As rest : List Value} {g : JFrame}
theorem vx_callBack (cb : CallB R s args own index y bytes maxL ret ws rm mc ms n) (hM : vx_Met l y ws rm Pc Qc XC mc ms free) (hbl : FrameBlind Pc) : vx_Back l R p e below s args y 3 8 (PreOf R mc ms Pc) (PostOf Qc mc ms free) (vx_Post XC mc ms free) := by
  obtain ⟨hrc, hrs, hfr, hlo, hws, hcw, -, hini, -⟩ := cb
  exact vx_back (bytes := bytes) (maxL := maxL) (ret := ret) hM hbl hrc hrs hfr hlo hws hcw (fun a' U hW => word_at hW (Or.inl (by first | rfl | simp [Cond.onTables, Cond.keeps, Cond.steady])) hini)
theorem vx_runV (S : CallFix p m c cc nL s args Ts own) (hM : vx_Met l y ws rm Pc Qc XC mc ms free) (cw : CallW R s args own C index y bytes maxL ret ws rm mc ms n) (hp : PreV s H C b Pc As)
    (hg : g.method = m) (hn : As.length = n) (hsize : g.locals.size = nL) (hstack : g.stack = As.reverse ++ .ref b :: rest) (hW : 2 * g.monitorRoom + (rest.map fun v => v.category).sum ≤ 8) (hdg : decode cc g.pc = .ok (.invokevirtual index, 3)) (hf : cells + mc ≤ R.cells ∧ slots + ms ≤ R.slots) :
    vx_Run p l e R s m args below meth c H locs cells slots mc ms g rest (Qc (Value.ref b :: As).toArray) XC free := by
  have hK : vx_Back l R p e below s args y 3 8 (PreOf R mc ms Pc) (PostOf Qc mc ms free) (vx_Post XC mc ms free) := vx_callBack cw.1 hM hp.1
  obtain ⟨⟨-, -, -, -, -, -, hcode, -, hy, hlen, hl⟩, hin, hse⟩ := cw
  obtain ⟨hx, hb, hml, ho, -⟩ := S
  obtain ⟨-, ⟨cellB, hcB, hoB, hclB⟩, hPc⟩ := hp
  intro T hT X
  rcases vx_callV X hx (C := C) (bytes := bytes) (maxL := maxL) (ret := ret) ho hl hin hse hcode hy hK (by rw [hT]; exact hcB) hoB hclB hg (hsize.trans hml.symm) (argsL := As) (rest := rest) (fun sig h => hn.trans (hlen sig h)) hstack hW (by rw [hb]; exact hdg)
    (fun vm₁ hW₁ => ⟨hf.1, hf.2, hPc (T.setVm vm₁) hT hW₁⟩) with ⟨v, vm₁, ⟨U', l2, c2, s2⟩, hW₁, X', ⟨g', mk, t, L, e1, e2, hq, h1, hL, h2, h3⟩, st⟩ | ⟨q, vm₁, ⟨U', l2, c2, s2⟩, hW₁, X', ⟨g', mk, t, L, E, ce, e1, e2, hq, hce, hcv, hcl, h1, hL, h2, h3⟩, st⟩
  · dsimp only [Pt.U, Pt.locs, Pt.cells, Pt.slots] at X' e1 e2 h1 h2 h3 st
    subst h1; subst h2; subst h3
    exact Or.inl ⟨v, (T.setVm vm₁).calling g' mk (Value.ref b :: As).toArray, t, U', L, hT, X', hL, e1, e2, hq, st⟩
  · dsimp only [Pt.U, Pt.locs, Pt.cells, Pt.slots] at X' e1 e2 h1 h2 h3 st hcl
    subst h1; subst h2; subst h3
    exact Or.inr ⟨q, (T.setVm vm₁).calling g' mk (Value.ref b :: As).toArray, t, U', L, E, ce, hT, X', hL, e1, e2, hq, hce, hcv, vx_cls hW₁ hcl, st⟩
theorem vx_runS (S : CallFix p m c cc nL s args Ts own) (hM : vx_Met l y ws rm Pc Qc XC mc ms free) (cw : CallB R s args own index y bytes maxL ret ws rm mc ms n ∧ (Cond.static y).before args s = true) (hp : PreS s H Pc As)
    (hg : g.method = m) (hn : As.length = n) (hsize : g.locals.size = nL) (hstack : g.stack = As.reverse ++ rest) (hW : 2 * g.monitorRoom + (rest.map fun v => v.category).sum ≤ 8) (hdg : decode cc g.pc = .ok (.invokestatic index, 3)) (hf : cells + mc ≤ R.cells ∧ slots + ms ≤ R.slots) :
    vx_Run p l e R s m args below meth c H locs cells slots mc ms g rest (Qc As.toArray) XC free := by
  have hK : vx_Back l R p e below s args y 3 8 (PreOf R mc ms Pc) (PostOf Qc mc ms free) (vx_Post XC mc ms free) := vx_callBack cw.1 hM hp.1
  obtain ⟨⟨-, -, -, -, -, -, hcode, hini, hy, hlen, hl⟩, hstt⟩ := cw
  obtain ⟨hx, hb, hml, ho, -⟩ := S
  intro T hT X
  rcases vx_callS X hx (bytes := bytes) (maxL := maxL) (ret := ret) ho hl hstt hini hcode hy hK hg (hsize.trans hml.symm) (argsL := As) (rest := rest) (fun sig h => hn.trans (hlen sig h)) hstack hW (by rw [hb]; exact hdg)
    (fun vm₁ hW₁ => ⟨hf.1, hf.2, hp.2 (T.setVm vm₁) hT hW₁⟩) with ⟨v, vm₁, ⟨U', l2, c2, s2⟩, hW₁, X', ⟨g', mk, t, L, e1, e2, hq, h1, hL, h2, h3⟩, st⟩ | ⟨q, vm₁, ⟨U', l2, c2, s2⟩, hW₁, X', ⟨g', mk, t, L, E, ce, e1, e2, hq, hce, hcv, hcl, h1, hL, h2, h3⟩, st⟩
  · dsimp only [Pt.U, Pt.locs, Pt.cells, Pt.slots] at X' e1 e2 h1 h2 h3 st
    subst h1; subst h2; subst h3
    exact Or.inl ⟨v, (T.setVm vm₁).calling g' mk As.toArray, t, U', L, hT, X', hL, e1, e2, hq, st⟩
  · dsimp only [Pt.U, Pt.locs, Pt.cells, Pt.slots] at X' e1 e2 h1 h2 h3 st hcl
    subst h1; subst h2; subst h3
    exact Or.inr ⟨q, (T.setVm vm₁).calling g' mk As.toArray, t, U', L, E, ce, hT, X', hL, e1, e2, hq, hce, hcv, vx_cls hW₁ hcl, st⟩
end Runs
section Rows
variable {p : Program} {l : Launch} {e : Env} {R : Room} {s : State} {m : MethodId} {args : Array Value} {below : List Frame} {meth : Method} {c : Code} {H : Heap} {locs : List Loc} {cells slots : Nat} {Q : State → Prop}
variable {mc ms : Nat} {free : Addr → Prop} {A0 A1 : Nat → Prop} {H0 : Heap} {a : Array Value} {pc : Nat} {ls : Array Slot} {st0 rest : List Value}
theorem vx_keep {st₀ t T' : State} {L : List Loc} (h0 : st₀.heap = H) (e1 : T'.heap = t.heap) (hS : va_S A0 H0 H locs) (hA : ∀ q, q < H.size → A1 q → A0 q) (hf : ∀ q, free q → A0 q) (hL : ∀ q ∈ L, free q.base) (hF : va_F A1 st₀ t) :
    H.size ≤ T'.heap.size ∧ (∀ q : Nat, q < H.size → ¬ A1 q → T'.heap[q]? = H[q]?) ∧ va_S A0 H0 T'.heap (locs ++ L) := by
  obtain ⟨hz, hk⟩ := hF
  rw [h0] at hz hk
  exact ⟨by rw [e1]; exact hz, fun q h1 h2 => by rw [e1]; exact hk q h1 h2,
    ⟨Nat.le_trans hS.1 (by rw [e1]; exact hz), fun q h1 h2 => by rw [e1, hk q (Nat.lt_of_lt_of_le h1 hS.1) (fun z => h2 (hA q (Nat.lt_of_lt_of_le h1 hS.1) z))]; exact hS.2.1 q h1 h2, fun q hq => by
      rcases List.mem_append.mp hq with h | h
      · exact hS.2.2 q h
      · exact hf _ (hL q h)⟩⟩
theorem vx_calli {S SX : Type} {post : Int32 → S → Prop} {px : SX → Prop} {B : S → State → Prop} {BX : String → SX → State → Prop} {AX : Nat → Prop} (hr : vx_Run p l e R s m args below meth c H locs cells slots mc ms (F0 m pc ls st0) rest (va_Qi post B A1 a) (vx_X px BX AX) free) (hS : va_S A0 H0 H locs) (hA : ∀ q, q < H.size → A1 q → A0 q) (hf : ∀ q, free q → A0 q) (hAX : ∀ q, q < H.size → AX q → A0 q)
    (kx : ∀ (E : String) (ce : Cell) (q9 : Addr) (u : SX) (t : State) (H1 : Heap) (locs1 : List Loc), t.heap = H1 → s.vm.Alike t.vm → px u → BX E u t → H.size ≤ H1.size → (∀ q : Nat, q < H.size → ¬ AX q → H1[q]? = H[q]?) → va_S A0 H0 H1 locs1 → H1[q9]? = some ce → ce.vm = .none → s.vm.findClass E = some ce.cls → vx_W p l e R s m args below meth c H1 locs1 (cells + mc) (slots + ms) Q (F0 m pc ls rest) q9)
    (kk : ∀ (r : Int32) (u : S) (t : State) (H1 : Heap) (locs1 : List Loc), t.heap = H1 → s.vm.Alike t.vm → post r u → B u t → H.size ≤ H1.size → (∀ q : Nat, q < H.size → ¬ A1 q → H1[q]? = H[q]?) → va_S A0 H0 H1 locs1 → W p l e R s m args below meth c H1 locs1 (cells + mc) (slots + ms) Q (F0 m (pc + 3) ls (.int r :: rest))) : W p l e R s m args below meth c H locs cells slots Q (F0 m pc ls st0) := by
  intro T hT X
  rcases hr T hT X with ⟨v, st₀, t, T', L, h0, X', hL, e1, e2, ⟨⟨r, u, hv, hp, hb⟩, hF⟩, st⟩ | ⟨q, st₀, t, T', L, E, ce, h0, X', hL, e1, e2, ⟨u, hp, hb, hF⟩, hce, hcv, hcl, st⟩
  · cases hv
    obtain ⟨k1, k2, k3⟩ := vx_keep h0 e1 hS hA hf hL hF
    obtain ⟨t2, a1, b1⟩ := kk r u t T'.heap (locs ++ L) e1.symm (by rw [← e2]; exact X'.warmed.alike) hp hb k1 k2 k3 T' rfl X'
    exact ⟨t2, st t2 a1, b1⟩
  · obtain ⟨k1, k2, k3⟩ := vx_keep h0 e1 hS hAX hf hL hF
    obtain ⟨t2, a1, b1⟩ := kx E ce q u t T'.heap (locs ++ L) e1.symm (by rw [← e2]; exact X'.warmed.alike) hp hb k1 k2 k3 (by rw [e1]; exact hce) hcv hcl T' rfl X'
    exact ⟨t2, st.trans a1, b1⟩
theorem vx_calll {S SX : Type} {post : Int64 → S → Prop} {px : SX → Prop} {B : S → State → Prop} {BX : String → SX → State → Prop} {AX : Nat → Prop} (hr : vx_Run p l e R s m args below meth c H locs cells slots mc ms (F0 m pc ls st0) rest (va_Ql post B A1 a) (vx_X px BX AX) free) (hS : va_S A0 H0 H locs) (hA : ∀ q, q < H.size → A1 q → A0 q) (hf : ∀ q, free q → A0 q) (hAX : ∀ q, q < H.size → AX q → A0 q)
    (kx : ∀ (E : String) (ce : Cell) (q9 : Addr) (u : SX) (t : State) (H1 : Heap) (locs1 : List Loc), t.heap = H1 → s.vm.Alike t.vm → px u → BX E u t → H.size ≤ H1.size → (∀ q : Nat, q < H.size → ¬ AX q → H1[q]? = H[q]?) → va_S A0 H0 H1 locs1 → H1[q9]? = some ce → ce.vm = .none → s.vm.findClass E = some ce.cls → vx_W p l e R s m args below meth c H1 locs1 (cells + mc) (slots + ms) Q (F0 m pc ls rest) q9)
    (kk : ∀ (r : Int64) (u : S) (t : State) (H1 : Heap) (locs1 : List Loc), t.heap = H1 → s.vm.Alike t.vm → post r u → B u t → H.size ≤ H1.size → (∀ q : Nat, q < H.size → ¬ A1 q → H1[q]? = H[q]?) → va_S A0 H0 H1 locs1 → W p l e R s m args below meth c H1 locs1 (cells + mc) (slots + ms) Q (F0 m (pc + 3) ls (.long r :: rest))) : W p l e R s m args below meth c H locs cells slots Q (F0 m pc ls st0) := by
  intro T hT X
  rcases hr T hT X with ⟨v, st₀, t, T', L, h0, X', hL, e1, e2, ⟨⟨r, u, hv, hp, hb⟩, hF⟩, st⟩ | ⟨q, st₀, t, T', L, E, ce, h0, X', hL, e1, e2, ⟨u, hp, hb, hF⟩, hce, hcv, hcl, st⟩
  · cases hv
    obtain ⟨k1, k2, k3⟩ := vx_keep h0 e1 hS hA hf hL hF
    obtain ⟨t2, a1, b1⟩ := kk r u t T'.heap (locs ++ L) e1.symm (by rw [← e2]; exact X'.warmed.alike) hp hb k1 k2 k3 T' rfl X'
    exact ⟨t2, st t2 a1, b1⟩
  · obtain ⟨k1, k2, k3⟩ := vx_keep h0 e1 hS hAX hf hL hF
    obtain ⟨t2, a1, b1⟩ := kx E ce q u t T'.heap (locs ++ L) e1.symm (by rw [← e2]; exact X'.warmed.alike) hp hb k1 k2 k3 (by rw [e1]; exact hce) hcv hcl T' rfl X'
    exact ⟨t2, st.trans a1, b1⟩
theorem vx_callf {S SX : Type} {post : UInt32 → S → Prop} {px : SX → Prop} {B : S → State → Prop} {BX : String → SX → State → Prop} {AX : Nat → Prop} (hr : vx_Run p l e R s m args below meth c H locs cells slots mc ms (F0 m pc ls st0) rest (va_Qf post B A1 a) (vx_X px BX AX) free) (hS : va_S A0 H0 H locs) (hA : ∀ q, q < H.size → A1 q → A0 q) (hf : ∀ q, free q → A0 q) (hAX : ∀ q, q < H.size → AX q → A0 q)
    (kx : ∀ (E : String) (ce : Cell) (q9 : Addr) (u : SX) (t : State) (H1 : Heap) (locs1 : List Loc), t.heap = H1 → s.vm.Alike t.vm → px u → BX E u t → H.size ≤ H1.size → (∀ q : Nat, q < H.size → ¬ AX q → H1[q]? = H[q]?) → va_S A0 H0 H1 locs1 → H1[q9]? = some ce → ce.vm = .none → s.vm.findClass E = some ce.cls → vx_W p l e R s m args below meth c H1 locs1 (cells + mc) (slots + ms) Q (F0 m pc ls rest) q9)
    (kk : ∀ (r : UInt32) (u : S) (t : State) (H1 : Heap) (locs1 : List Loc), t.heap = H1 → s.vm.Alike t.vm → post r u → B u t → H.size ≤ H1.size → (∀ q : Nat, q < H.size → ¬ A1 q → H1[q]? = H[q]?) → va_S A0 H0 H1 locs1 → W p l e R s m args below meth c H1 locs1 (cells + mc) (slots + ms) Q (F0 m (pc + 3) ls (.float r :: rest))) : W p l e R s m args below meth c H locs cells slots Q (F0 m pc ls st0) := by
  intro T hT X
  rcases hr T hT X with ⟨v, st₀, t, T', L, h0, X', hL, e1, e2, ⟨⟨r, u, hv, hp, hb⟩, hF⟩, st⟩ | ⟨q, st₀, t, T', L, E, ce, h0, X', hL, e1, e2, ⟨u, hp, hb, hF⟩, hce, hcv, hcl, st⟩
  · cases hv
    obtain ⟨k1, k2, k3⟩ := vx_keep h0 e1 hS hA hf hL hF
    obtain ⟨t2, a1, b1⟩ := kk r u t T'.heap (locs ++ L) e1.symm (by rw [← e2]; exact X'.warmed.alike) hp hb k1 k2 k3 T' rfl X'
    exact ⟨t2, st t2 a1, b1⟩
  · obtain ⟨k1, k2, k3⟩ := vx_keep h0 e1 hS hAX hf hL hF
    obtain ⟨t2, a1, b1⟩ := kx E ce q u t T'.heap (locs ++ L) e1.symm (by rw [← e2]; exact X'.warmed.alike) hp hb k1 k2 k3 (by rw [e1]; exact hce) hcv hcl T' rfl X'
    exact ⟨t2, st.trans a1, b1⟩
theorem vx_calld {S SX : Type} {post : UInt64 → S → Prop} {px : SX → Prop} {B : S → State → Prop} {BX : String → SX → State → Prop} {AX : Nat → Prop} (hr : vx_Run p l e R s m args below meth c H locs cells slots mc ms (F0 m pc ls st0) rest (va_Qd post B A1 a) (vx_X px BX AX) free) (hS : va_S A0 H0 H locs) (hA : ∀ q, q < H.size → A1 q → A0 q) (hf : ∀ q, free q → A0 q) (hAX : ∀ q, q < H.size → AX q → A0 q)
    (kx : ∀ (E : String) (ce : Cell) (q9 : Addr) (u : SX) (t : State) (H1 : Heap) (locs1 : List Loc), t.heap = H1 → s.vm.Alike t.vm → px u → BX E u t → H.size ≤ H1.size → (∀ q : Nat, q < H.size → ¬ AX q → H1[q]? = H[q]?) → va_S A0 H0 H1 locs1 → H1[q9]? = some ce → ce.vm = .none → s.vm.findClass E = some ce.cls → vx_W p l e R s m args below meth c H1 locs1 (cells + mc) (slots + ms) Q (F0 m pc ls rest) q9)
    (kk : ∀ (r : UInt64) (u : S) (t : State) (H1 : Heap) (locs1 : List Loc), t.heap = H1 → s.vm.Alike t.vm → post r u → B u t → H.size ≤ H1.size → (∀ q : Nat, q < H.size → ¬ A1 q → H1[q]? = H[q]?) → va_S A0 H0 H1 locs1 → W p l e R s m args below meth c H1 locs1 (cells + mc) (slots + ms) Q (F0 m (pc + 3) ls (.double r :: rest))) : W p l e R s m args below meth c H locs cells slots Q (F0 m pc ls st0) := by
  intro T hT X
  rcases hr T hT X with ⟨v, st₀, t, T', L, h0, X', hL, e1, e2, ⟨⟨r, u, hv, hp, hb⟩, hF⟩, st⟩ | ⟨q, st₀, t, T', L, E, ce, h0, X', hL, e1, e2, ⟨u, hp, hb, hF⟩, hce, hcv, hcl, st⟩
  · cases hv
    obtain ⟨k1, k2, k3⟩ := vx_keep h0 e1 hS hA hf hL hF
    obtain ⟨t2, a1, b1⟩ := kk r u t T'.heap (locs ++ L) e1.symm (by rw [← e2]; exact X'.warmed.alike) hp hb k1 k2 k3 T' rfl X'
    exact ⟨t2, st t2 a1, b1⟩
  · obtain ⟨k1, k2, k3⟩ := vx_keep h0 e1 hS hAX hf hL hF
    obtain ⟨t2, a1, b1⟩ := kx E ce q u t T'.heap (locs ++ L) e1.symm (by rw [← e2]; exact X'.warmed.alike) hp hb k1 k2 k3 (by rw [e1]; exact hce) hcv hcl T' rfl X'
    exact ⟨t2, st.trans a1, b1⟩
theorem vx_callv {S SX : Type} {post : S → Prop} {px : SX → Prop} {B : S → State → Prop} {BX : String → SX → State → Prop} {AX : Nat → Prop} (hr : vx_Run p l e R s m args below meth c H locs cells slots mc ms (F0 m pc ls st0) rest (va_Qv post B A1 a) (vx_X px BX AX) free) (hS : va_S A0 H0 H locs) (hA : ∀ q, q < H.size → A1 q → A0 q) (hf : ∀ q, free q → A0 q) (hAX : ∀ q, q < H.size → AX q → A0 q)
    (kx : ∀ (E : String) (ce : Cell) (q9 : Addr) (u : SX) (t : State) (H1 : Heap) (locs1 : List Loc), t.heap = H1 → s.vm.Alike t.vm → px u → BX E u t → H.size ≤ H1.size → (∀ q : Nat, q < H.size → ¬ AX q → H1[q]? = H[q]?) → va_S A0 H0 H1 locs1 → H1[q9]? = some ce → ce.vm = .none → s.vm.findClass E = some ce.cls → vx_W p l e R s m args below meth c H1 locs1 (cells + mc) (slots + ms) Q (F0 m pc ls rest) q9)
    (kk : ∀ (u : S) (t : State) (H1 : Heap) (locs1 : List Loc), t.heap = H1 → s.vm.Alike t.vm → post u → B u t → H.size ≤ H1.size → (∀ q : Nat, q < H.size → ¬ A1 q → H1[q]? = H[q]?) → va_S A0 H0 H1 locs1 → W p l e R s m args below meth c H1 locs1 (cells + mc) (slots + ms) Q (F0 m (pc + 3) ls (rest))) : W p l e R s m args below meth c H locs cells slots Q (F0 m pc ls st0) := by
  intro T hT X
  rcases hr T hT X with ⟨v, st₀, t, T', L, h0, X', hL, e1, e2, ⟨⟨u, hv, hp, hb⟩, hF⟩, st⟩ | ⟨q, st₀, t, T', L, E, ce, h0, X', hL, e1, e2, ⟨u, hp, hb, hF⟩, hce, hcv, hcl, st⟩
  · cases hv
    obtain ⟨k1, k2, k3⟩ := vx_keep h0 e1 hS hA hf hL hF
    obtain ⟨t2, a1, b1⟩ := kk u t T'.heap (locs ++ L) e1.symm (by rw [← e2]; exact X'.warmed.alike) hp hb k1 k2 k3 T' rfl X'
    exact ⟨t2, st t2 a1, b1⟩
  · obtain ⟨k1, k2, k3⟩ := vx_keep h0 e1 hS hAX hf hL hF
    obtain ⟨t2, a1, b1⟩ := kx E ce q u t T'.heap (locs ++ L) e1.symm (by rw [← e2]; exact X'.warmed.alike) hp hb k1 k2 k3 (by rw [e1]; exact hce) hcv hcl T' rfl X'
    exact ⟨t2, st.trans a1, b1⟩
/-- caught by the row x of this method's table; the rows ahead don't take it -/
theorem vx_catch {own name : String} {E : String} {ce : Cell} {q : Addr} (hown : s.vm.findClass own = some m.cls) (pre : List ExceptionTableEntry) (x : ExceptionTableEntry) (suf : List ExceptionTableEntry) (hsplit : c.exceptionTable.toList = pre ++ x :: suf)
    (hpass : ∀ z ∈ pre, covers z pc = false ∨ (z.catchType ≠ 0 ∧ ∃ nm : String, (Cond.classLink own z.catchType nm).before args s = true ∧ va_Nc E nm s)) (hx : covers x pc = true) (h0 : x.catchType ≠ 0)
    (hlink : (Cond.classLink own x.catchType name).before args s = true) (hcast : (Cond.castable E name).before args s = true) (hcell : H[q]? = some ce) (hv : ce.vm = .none) (hcl : s.vm.findClass E = some ce.cls)
    (kk : W p l e R s m args below meth c H locs cells slots Q (F0 m x.handlerPc ls [.ref q])) : vx_W p l e R s m args below meth c H locs cells slots Q (F0 m pc ls rest) q := by
  intro T hT X
  have hpl : e.platform.magicAccessors = ({} : Platform).magicAccessors := by rw [X.admits.platform]
  obtain ⟨c3, c4, hc3, hc4, hasg⟩ := Cond.castable_spec hcast
  cases Option.some.inj (hc3.symm.trans hcl)
  obtain ⟨c5, hc5, hcl5⟩ := Cond.classLink_spec hown hlink e.platform hpl
  cases Option.some.inj (hc4.symm.trans hc5)
  obtain ⟨vm', X', st⟩ := Stand.thenCaughtThrough X q (g := F0 m pc ls rest) rfl (Steps.refl _) (by rw [hT]; exact hcell) (by rw [hv]; rfl) (by obtain ⟨k9, h9, -⟩ := Vm.findClass_spec hcl; exact ⟨k9, h9⟩) pre x suf hsplit
    (fun z hz => by
      rcases hpass z hz with h | ⟨hz0, nm, hl1, hn1⟩
      · exact Or.inl h
      · obtain ⟨c6, hc6, hcl6⟩ := Cond.classLink_spec hown hl1 e.platform hpl
        obtain ⟨a8, b8, h1, h2, h3⟩ := hn1
        cases Option.some.inj (h1.symm.trans hcl)
        cases Option.some.inj (h2.symm.trans hc6)
        exact Or.inr ⟨hz0, _, hcl6, h3⟩) hx (Or.inr ⟨h0, c4, hcl5, hasg⟩)
  obtain ⟨t, a1, b1⟩ := kk (T.setVm vm') hT X'
  exact ⟨t, st.trans a1, b1⟩
end Rows
section Ends
variable {p : Program} {l : Launch} {e : Env} {R : Room} {s : State} {m : MethodId} {args : Array Value} {below : List Frame} {meth : Method} {c : Code} {H : Heap} {locs : List Loc} {cells slots : Nat} {Q : State → Prop}
variable {mc ms : Nat} {free : Addr → Prop} {A0 A1 : Nat → Prop} {H0 : Heap} {a : Array Value} {ls : Array Slot} {st0 rest : List Value}
variable {Qc : Array Value → State → Outcome → State → Prop} {XC : String → State → State → Prop}
/-- what a body that may throw owes at its end -/
def vx_MQ (below : List Frame) (Qc : Array Value → State → Outcome → State → Prop) (XC : String → State → State → Prop) (a : Array Value) (s : State) (mc ms : Nat) (free : Addr → Prop) : State → Prop := fun t =>
  ∃ o, t.status = .running ∧ Ended t below o ∧ vx_Q Qc XC mc ms free a s o t
theorem vx_ret {g : JFrame} {mc ms : Nat} (k : W p l e R s m args below meth c H locs cells slots (MQ below Qc args s mc ms free) g) : W p l e R s m args below meth c H locs cells slots (vx_MQ below Qc XC args s mc ms free) g := by
  intro T hT X
  obtain ⟨t, a1, o, b1, b2, b3, b4⟩ := k T hT X
  exact ⟨t, a1, o, b1, b2, Or.inl ⟨b3, b4⟩⟩
/-- not caught here: it goes on to the caller -/
theorem vx_widen {g : JFrame} {q : Addr} {k n : Nat} (h1 : cells ≤ k) (h2 : slots ≤ n) (kk : vx_W p l e R s m args below meth c H locs k n Q g q) : vx_W p l e R s m args below meth c H locs cells slots Q g q := fun T hT X => kk T hT (stand_widen X h1 h2)
theorem vx_out {pc : Nat} {E : String} {ce : Cell} {q : Addr} {mc ms : Nat} (hout : ∀ x ∈ c.exceptionTable.toList, covers x pc = false) (hlocks : meth.locks = false) (hcell : H[q]? = some ce) (hv : ce.vm = .none) (hcl : s.vm.findClass E = some ce.cls)
    (hx : ∀ t : State, t.heap = H → s.vm.Alike t.vm → XC E s t) (hf : ∀ z ∈ locs, free z.base) (hc : cells ≤ mc) (hs : slots ≤ ms) :
    vx_W p l e R s m args below meth c H locs cells slots (vx_MQ below Qc XC args s mc ms free) (F0 m pc ls rest) q := by
  intro T hT X
  obtain ⟨st1, hrun, hend, hW, hsm⟩ := X.leaveThrown q (g := F0 m pc ls rest) rfl rfl rfl hout hlocks
  have hcell9 : (T.setFrames (.throwing q :: below)).heap[q]? = some ce := by
    show T.heap[q]? = some ce
    rw [hT]; exact hcell
  exact ⟨_, st1, .threw q, hrun, hend, Or.inr ⟨q, rfl, E, ce, locs, hx _ hT hW.alike, hcell9, hv, hcl, hW, hsm.mono hc hs, hf⟩⟩
theorem vx_frame {U : State} {k n : Nat} (h : s.sameButNew ({ U with vm := s.vm } : State) locs k n) : s.heap.size ≤ U.heap.size ∧ ∀ q : Nat, q < s.heap.size → (∀ z ∈ locs, z.base ≠ q) → U.heap[q]? = s.heap[q]? := by
  obtain ⟨-, h2, -, -, -, h6⟩ := h
  refine ⟨h2, fun q hq hz => ?_⟩
  obtain ⟨c9, e1, e2, e3, e4⟩ := h6 q _ (Array.getElem?_eq_getElem hq)
  have hs : c9.slots = (s.heap[q]).slots := Array.ext_getElem? fun i => e4 i fun hm => hz _ hm rfl
  have h9 : c9 = s.heap[q] := by
    rw [hs] at e2
    exact e2
  have e5 : U.heap[q]? = some c9 := e1
  rw [e5, h9, Array.getElem?_eq_getElem hq]
/-- the words of a throw but the four that speak of the heap -/
def vx_no (w : Cond) : Bool := decide (w ≠ .isRef (.static Bundle.tN "UNASSIGNED_STACK" Bundle.steD)) && decide (w ≠ .isRef (.static Bundle.tN "SUPPRESSED_SENTINEL" Bundle.listD)) && decide (w ≠ .laysStatic Bundle.tN "UNASSIGNED_STACK" Bundle.steD) && decide (w ≠ .laysStatic Bundle.tN "SUPPRESSED_SENTINEL" Bundle.listD)
def vx_at0 (own : String) (ic : Nat) (X : String) (names : List String) : List Cond := (Bundle.ownAtoms0 own ic X names).filter vx_no
def vx_atS (own : String) (ic : Nat) (X : String) (names : List String) : List Cond := (Bundle.ownAtoms own ic X names).filter vx_no
/-- a word that the tables alone decide, or a good one -/
def vx_ot (w : Cond) : Bool := w.onTables || goodWord w
theorem vx_ot_at {args a' : Array Value} {s U : State} {w : Cond} (hW : s.WarmedH U.vm) (hvm : s.vm = U.vm) (hg : vx_ot w = true) (h : w.before args s = true) : w.before a' U = true := by
  simp only [vx_ot, Bool.or_eq_true] at hg
  rcases hg with hg | hg
  · exact va_tabs hg hvm h
  · exact word_at hW (good_of_word hg) h
/-- a list's words: the good ones out of the method's own list, the others by premises of their own -/
theorem vx_hat {args : Array Value} {s : State} {L B : List Cond} (h1 : ∀ w ∈ L.filter goodWord, w.before args s = true) (h2 : ∀ w ∈ L.filter (fun w => !goodWord w), w ∈ B) (h3 : ∀ w ∈ B, w.before args s = true) : ∀ w ∈ L, w.before args s = true := by
  intro w hw
  by_cases g : goodWord w = true
  · exact h1 w (List.mem_filter.mpr ⟨hw, g⟩)
  · refine h3 w (h2 w (List.mem_filter.mpr ⟨hw, ?_⟩))
    show (!goodWord w) = true
    cases hgw : goodWord w
    · rfl
    · exact absurd hgw g
theorem vx_c {args : Array Value} {s : State} {w : Cond} {B : List Cond} (h : w.before args s = true) (t : ∀ w ∈ B, w.before args s = true) : ∀ w' ∈ w :: B, w'.before args s = true := fun w' h' => (List.mem_cons.mp h').elim (fun e => by rw [e]; exact h) (t w')
theorem vx_n {args : Array Value} {s : State} : ∀ w ∈ ([] : List Cond), w.before args s = true := fun _ h => nomatch h
theorem vx_own {args : Array Value} {s : State} {L : List Cond} (h1 : ∀ w ∈ L.filter vx_no, w.before args s = true)
    (hU : (Cond.isRef (.static Bundle.tN "UNASSIGNED_STACK" Bundle.steD)).before args s = true) (hN : (Cond.isRef (.static Bundle.tN "SUPPRESSED_SENTINEL" Bundle.listD)).before args s = true)
    (lU : (Cond.laysStatic Bundle.tN "UNASSIGNED_STACK" Bundle.steD).before args s = true) (lN : (Cond.laysStatic Bundle.tN "SUPPRESSED_SENTINEL" Bundle.listD).before args s = true) : ∀ w ∈ L, w.before args s = true := by
  intro w hw
  by_cases e1 : w = .isRef (.static Bundle.tN "UNASSIGNED_STACK" Bundle.steD)
  · rw [e1]; exact hU
  · by_cases e2 : w = .isRef (.static Bundle.tN "SUPPRESSED_SENTINEL" Bundle.listD)
    · rw [e2]; exact hN
    · by_cases e3 : w = .laysStatic Bundle.tN "UNASSIGNED_STACK" Bundle.steD
      · rw [e3]; exact lU
      · by_cases e4 : w = .laysStatic Bundle.tN "SUPPRESSED_SENTINEL" Bundle.listD
        · rw [e4]; exact lN
        · exact h1 w (List.mem_filter.mpr ⟨hw, by unfold vx_no; rw [decide_eq_true e1, decide_eq_true e2, decide_eq_true e3, decide_eq_true e4]; rfl⟩)
/-- where a static field lies, its class's statics cell in H -/
def vx_L (C n d : String) (A : Nat → Prop) (U : State) (H : Heap) : Prop := ∃ (c : ClassId) (k : Class) (i : Nat) (f : Field) (a : Nat) (cell : Cell), U.vm.findClass C = some c ∧ U.fieldFound? C n d = some (c, k, i, f) ∧ f.isStatic = true ∧ k.statics = some a ∧ H[a]? = some cell ∧ cell.vm.isStatics = true ∧ cell.cls = c ∧ f.slot < cell.slots.size ∧ k.staticTypes[f.slot]? = some f.type ∧ ¬ A a
theorem vx_L.moved {C n d : String} {A : Nat → Prop} {u U : State} {H : Heap} (hvm : u.vm.Alike U.vm) (h : vx_L C n d A u H) : vx_L C n d A U H := by
  obtain ⟨c, k, i, f, a, cell, h1, h2, h3, h4, h5, h6, h7, h8, h9, h10⟩ := h
  obtain ⟨k', hi', he⟩ := State.fieldFound?_setVm hvm h2
  exact ⟨c, k', i, f, a, cell, by rw [hvm.findClass]; exact h1, hi', h3, by rw [he]; exact h4, h5, h6, h7, h8, by rw [he]; exact h9, h10⟩
theorem vx_L.kept {C n d : String} {A : Nat → Prop} {U : State} {H H1 : Heap} (h : vx_L C n d A U H) (hq : ∀ a : Nat, a < H.size → ¬ A a → H1[a]? = H[a]?) : vx_L C n d A U H1 := by
  obtain ⟨c, k, i, f, a, cell, h1, h2, h3, h4, h5, h6, h7, h8, h9, h10⟩ := h
  exact ⟨c, k, i, f, a, cell, h1, h2, h3, h4, by rw [hq a (Array.getElem?_eq_some_iff.mp h5).1 h10]; exact h5, h6, h7, h8, h9, h10⟩
theorem vx_L.narrow {C n d : String} {A B : Nat → Prop} {U : State} {H : Heap} (h : vx_L C n d A U H) (hAB : ∀ q, B q → A q) : vx_L C n d B U H := by
  obtain ⟨c, k, i, f, a, cell, h1, h2, h3, h4, h5, h6, h7, h8, h9, h10⟩ := h
  exact ⟨c, k, i, f, a, cell, h1, h2, h3, h4, h5, h6, h7, h8, h9, fun z => h10 (hAB _ z)⟩
theorem vx_L.word {C n d : String} {A : Nat → Prop} {s : State} {args : Array Value} (h : vx_L C n d A s s.heap) : (Cond.laysStatic C n d).before args s = true := by
  obtain ⟨c, k, i, f, a, cell, h1, h2, h3, h4, h5, h6, h7, h8, h9, -⟩ := h
  show (Cond.laysStatic C n d).holds args s none s [] = true
  exact Cond.laysStatic_of h1 h2 h3 h4 h5 h6 h7 h8 h9
/-- .. and what it holds: null or some reference -/
def vx_Zq (C n d : String) (A : Nat → Prop) (U : State) (H : Heap) : Prop := va_Zq C n d A U H ∧ vx_L C n d A U H
theorem vx_Zq.moved {C n d : String} {A : Nat → Prop} {u U : State} {H : Heap} (hvm : u.vm.Alike U.vm) (h : vx_Zq C n d A u H) : vx_Zq C n d A U H := ⟨va_Zq.moved hvm h.1, vx_L.moved hvm h.2⟩
theorem vx_Zq.kept {C n d : String} {A : Nat → Prop} {U : State} {H H1 : Heap} (h : vx_Zq C n d A U H) (hq : ∀ a : Nat, a < H.size → ¬ A a → H1[a]? = H[a]?) : vx_Zq C n d A U H1 := ⟨va_Zq.kept h.1 hq, vx_L.kept h.2 hq⟩
theorem vx_Zq.narrow {C n d : String} {A B : Nat → Prop} {U : State} {H : Heap} (h : vx_Zq C n d A U H) (hAB : ∀ q, B q → A q) : vx_Zq C n d B U H := ⟨va_Zq.narrow h.1 hAB, vx_L.narrow h.2 hAB⟩
theorem vx_Zqof {args : Array Value} {s : State} {C n d : String} {A : Nat → Prop} (hl : (Cond.laysStatic C n d).before args s = true) (hini : (Cond.initialized C).before args s = true) (h : (Cond.isRef (.static C n d)).before args s = true) (hA : ∀ a : Nat, a < s.heap.size → ¬ A a) : vx_Zq C n d A s s.heap := by
  refine ⟨va_Zqof hl hini h hA, ?_⟩
  obtain ⟨c, k, i, f, a, cell, h1, h2, h3, h4, h5, h6, h7, h8, h9⟩ := Cond.laysStatic_spec hl
  exact ⟨c, k, i, f, a, cell, h1, h2, h3, h4, h5, h6, h7, h8, h9, hA a (Array.getElem?_eq_some_iff.mp h5).1⟩
theorem vx_isRef {C n d : String} {v : Value} {A : Nat → Prop} {s : State} {args : Array Value} (h : va_Z C n d v A s s.heap) (hv : v.isRef = true) : (Cond.isRef (.static C n d)).before args s = true := by
  obtain ⟨cf, kf, fi, f, a, cell, h1, h2, h3, h4, h5, h6, h7, -⟩ := h
  have he : (Term.static C n d).eval args s none [] s = some v := by
    simp [Term.eval, State.fieldNamed?, h1, h2, h4, h5, h6, h7]
  simp only [Cond.before, Cond.holds, Cond.value, he]
  cases v <;> simp_all [Value.isRef]
theorem vx_isRefq {C n d : String} {A : Nat → Prop} {s : State} {args : Array Value} (h : va_Zq C n d A s s.heap) : (Cond.isRef (.static C n d)).before args s = true := by
  rcases h with h | ⟨t, h⟩
  · exact vx_isRef h rfl
  · exact vx_isRef h rfl
/-- the same frame, seen from here: as if the method were called anew in this heap -/
theorem vx_rebase {T : State} (X : Stand p l e R s m args below meth c T locs cells slots) {R' : Room} (hf : R'.frames ≤ R.frames) (hl : R'.locals ≤ R.locals) (hc : cells + R'.cells ≤ R.cells) (hs : slots + R'.slots ≤ R.slots) :
    Stand p l e R' ((T.setVm s.vm).setFrames (.invoking m args :: below)) m args below meth c T [] 0 0 := by
  have htop : (T.setVm s.vm).topJava?.isSome := X.here.top
  have hF : ((T.setVm s.vm).setFrames (.invoking m args :: below)).frames = .invoking m args :: below := State.frames_setFrames _ (State.cur_lt_of_top htop)
  obtain ⟨g₀, hg0⟩ := Option.isSome_iff_exists.mp htop
  obtain ⟨r, hr⟩ := State.topJava?_eq_some.mp hg0
  have hl9 : e.platform.stackLimits (T.setVm s.vm).me = e.platform.stackLimits s.me := X.limits
  have hb9 : (T.setVm s.vm).me.stackBytes = s.me.stackBytes := X.bytes
  refine ⟨X.admits, X.cas, X.clock, hF, ?_, X.hears, X.method, X.code, X.here, X.tail, X.warmed, ?_, ?_, ?_⟩
  · have h := X.room
    have hU : ((T.setVm s.vm).setFrames (.invoking m args :: below)).localsInUse = s.localsInUse := by
      rw [State.localsInUse_invoking hF (meth := meth) (c := c) X.method X.code, State.localsInUse_invoking X.frames X.method X.code]
    simp only [State.hasRoom, Bool.and_eq_true, decide_eq_true_eq] at h ⊢
    obtain ⟨⟨⟨⟨h1, h2, h3, h4, h5, h6⟩, h7⟩, h8⟩, h9⟩ := h
    rw [X.frames, List.length_cons] at h2 h3
    have q1 := X.heapSize
    have q2 := X.used
    simp only [hF, hU, List.length_cons, State.stackLimits_setFrames, State.stackBytes_setFrames, hl9, hb9]
    refine ⟨⟨⟨⟨by omega, by omega, by omega, by omega, by omega, h6⟩, ?_⟩, ?_⟩, X.book⟩
    · show T.heap.size + R'.cells ≤ e.platform.maxCells
      omega
    · show T.slotsUsed + R'.slots ≤ e.platform.maxSlots
      omega
  · rw [State.stackLimits_setFrames]; rfl
  · rw [State.stackBytes_setFrames]; rfl
  · refine ⟨?_, Nat.le_refl _, Nat.le_refl _, ?_, ?_, fun a c9 h9 => ⟨c9, h9, rfl, rfl, fun _ _ => rfl⟩⟩
    · obtain ⟨t, ht, -⟩ := State.frames_cons hr
      show T.setVm s.vm = { ((T.setVm s.vm).setFrames (.invoking m args :: below)).setFrames (T.setVm s.vm).frames with heap := T.heap, slotsUsed := T.slotsUsed }
      rw [State.setFrames_setFrames, State.setFrames_self ht]
      rfl
    · show T.slotsUsed = T.slotsUsed + ((T.heap.toList.drop T.heap.size).map (·.slots.size)).sum
      rw [List.drop_eq_nil_of_le (Nat.le_of_eq Array.length_toList)]
      rfl
    · show ((T.heap.toList.drop T.heap.size).map (·.slots.size)).sum ≤ 0
      rw [List.drop_eq_nil_of_le (Nat.le_of_eq Array.length_toList)]
      exact Nat.le_refl _
/-- 'throw new E()': new; dup; invokespecial; athrow -/
theorem vx_throw0 {cc : ByteArray} {pc : Nat} (hexec : p.tables.exec = Jvm.exec) (hb : c.code = cc) (hl : l.stackTraces = false) {own cls : String} {names : List String} {ik ic mc ms : Nat} {A : Nat → Prop}
    (hown : s.vm.findClass own = some m.cls) (hcls : Bundle.fit cls = true) (hnames : ∀ n ∈ names, Bundle.fit n = true)
    (hk : (Cond.classLink own ik cls).before args s = true) (hini : (Cond.initialized cls).before args s = true) (hat : ∀ w ∈ vx_at0 own ic cls names, w.before args s = true)
    (hgood : ∀ w ∈ Cond.classLink own ik cls :: Cond.initialized cls :: vx_at0 own ic cls names, vx_ot w = true)
    (hU : vx_Zq Bundle.tN "UNASSIGNED_STACK" Bundle.steD A s s.heap) (hN : vx_Zq Bundle.tN "SUPPRESSED_SENTINEL" Bundle.listD A s s.heap) (hS : va_S A s.heap H locs) (hsize : ls.size = c.maxLocals)
    (d0 : decode cc pc = .ok (.new ik, 3)) (d3 : decode cc (pc + 3) = .ok (.dup, 1)) (d4 : decode cc (pc + 4) = .ok (.invokespecial ic, 3)) (d7 : decode cc (pc + 7) = .ok (.athrow, 1))
    (hout : ∀ x ∈ c.exceptionTable.toList, covers x (pc + 7) = false)
    (hRframes : names.length + 3 < R.frames) (hRlocals : (rest.map fun v => v.category).sum + (13 * (names.length + 1) + 42) ≤ R.locals) (hRcells : cells + 1 ≤ R.cells) (hRslots : slots + 6 ≤ R.slots) (hlocks : meth.locks = false)
    (hx : ∀ t : State, s.vm.Alike t.vm → H.size ≤ t.heap.size → (∀ q : Nat, q < H.size → t.heap[q]? = H[q]?) → XC cls s t)
    (hf : ∀ z ∈ locs, free z.base) (hc : cells + 1 ≤ mc) (hs : slots + 6 ≤ ms) :
    W p l e R s m args below meth c H locs cells slots (vx_MQ below Qc XC args s mc ms free) (F0 m pc ls rest) := by
  intro T hT X
  have htr : e.platform.stackTraces = false := (show e.platform.stackTraces = l.stackTraces by rw [X.admits.platform]).trans hl
  have Y := vx_rebase X (R' := { frames := R.frames, locals := R.locals, cells := 1, slots := 6 }) (Nat.le_refl _) (Nat.le_refl _) hRcells hRslots
  obtain ⟨s', hA⟩ : ∃ z, z = (T.setVm s.vm).setFrames (.invoking m args :: below) := ⟨_, rfl⟩
  rw [← hA] at Y
  have hvm : s'.vm = s.vm := by rw [hA]; rfl
  have hhp : s'.heap = H := by rw [hA]; exact hT
  have hW0 : s.WarmedH s'.vm := by rw [hvm]; exact State.WarmedH.refl s
  have hat' : ∀ w ∈ vx_at0 own ic cls names, w.before args s' = true := fun w hw => vx_ot_at hW0 hvm.symm (hgood w (List.mem_cons_of_mem _ (List.mem_cons_of_mem _ hw))) (hat w hw)
  have hk' : (Cond.classLink own ik cls).before args s' = true := vx_ot_at hW0 hvm.symm (hgood _ List.mem_cons_self) hk
  have hini' : (Cond.initialized cls).before args s' = true := vx_ot_at hW0 hvm.symm (hgood _ (List.mem_cons_of_mem _ List.mem_cons_self)) hini
  have hU' : vx_Zq Bundle.tN "UNASSIGNED_STACK" Bundle.steD A s' s'.heap := by rw [hhp]; exact vx_Zq.moved hW0.alike (hU.kept hS.2.1)
  have hN' : vx_Zq Bundle.tN "SUPPRESSED_SENTINEL" Bundle.listD A s' s'.heap := by rw [hhp]; exact vx_Zq.moved hW0.alike (hN.kept hS.2.1)
  have h : ∀ w ∈ Bundle.ownAtoms0 own ic cls names, w.before args s' = true := vx_own hat' (vx_isRefq hU'.1) (vx_isRefq hN'.1) hU'.2.word hN'.2.word
  have hown' : s'.vm.findClass own = some m.cls := by rw [hvm]; exact hown
  have hins : (Cond.instantiable cls 6).before args s' = true := h _ (by simp [Bundle.ownAtoms0])
  obtain ⟨vm₁, cX, kX, hfX, hkX, -, -, X₁, st1⟩ := Y.newCold hexec (own := own) (C := cls) (index := ik) (n := 6) hown' hk' hins hini'
    (g := F0 m pc ls rest) rfl (by rw [hb]; exact d0) (Nat.le_refl _) (Nat.le_refl _)
  generalize hT1 : (T.setVm vm₁).pushCell { cls := cX, slots := kX.instanceTypes.map defaultValue, vm := .none } = T1 at X₁ st1
  have hcat : (Value.ref T.heap.size).category = 1 := rfl
  have hcellA : T1.heap[T.heap.size]? = some (freshCell cX kX) := by rw [← hT1]; exact State.heap_pushCell_size _ _
  have d3' : decode c.code (pc + 3) = .ok (.dup, 1) := by rw [hb]; exact d3
  obtain ⟨U, hsteps, hrun, hend, hW, hsame, ce, hce, hO⟩ := X₁.ctorThrow0 hexec htr (own := own) (cls := cls) (names := names) (ic := ic) hown' hcls hnames h (fun x hx => nomatch hx) hfX hkX hcellA (by rw [hhp, hT]; exact Nat.le_refl _)
    (g := { method := m, pc := pc + 4, locals := ls, stack := .ref T.heap.size :: .ref T.heap.size :: rest, locked := none }) rfl hsize rfl rfl (rest := rest) rfl
    (by rw [hb]; exact d4) (by rw [hb]; exact d7) hout hRframes (by simp only [List.map_cons, List.sum_cons, hcat]; omega) hlocks
  obtain ⟨f1, f2⟩ := vx_frame hsame
  rw [hhp] at f1 f2
  have hWs : s.WarmedH U.vm := State.WarmedH.trans hW0 hW
  have hcl : s.vm.findClass cls = some ce.cls := by
    have h9 := hO.cls
    rw [hvm] at h9
    exact h9
  have hall : s.sameButNew ({ U with vm := s.vm } : State) locs mc ms := by
    subst hA
    obtain ⟨e1, e2⟩ := hsame
    rw [State.setFrames_setFrames] at e1
    have h2 : (T.setVm s.vm).sameButNew ({ U with vm := s.vm } : State) [] (0 + 1) (0 + 6) := ⟨e1, e2⟩
    have h3 := X.same.trans h2
    rw [List.append_nil] at h3
    exact h3.mono hc hs
  refine ⟨U, ?_, .threw T.heap.size, hrun, hend, Or.inr ⟨T.heap.size, rfl, cls, ce, locs, hx U hWs.alike f1 (fun q hq => f2 q hq (fun z hz => nomatch hz)), hce, hO.vm, hcl, hWs, hall, hf⟩⟩
  refine st1 _ ?_
  show Steps p.tables e below (T1.setTop { method := m, pc := pc + 3, locals := ls, stack := .ref T.heap.size :: rest, locked := none }) _
  jvm_step X₁.here [X₁.here.top, hexec, d3', Value.category]
  exact hsteps
/-- 'throw new E("text")': new; dup; ldc; invokespecial; athrow -/
theorem vx_throwS {cc : ByteArray} {pc : Nat} (hexec : p.tables.exec = Jvm.exec) (hb : c.code = cc) (hl : l.stackTraces = false) {own cls text : String} {names : List String} {ik is ic mc ms sa : Nat} {A : Nat → Prop}
    (hown : s.vm.findClass own = some m.cls) (hcls : Bundle.fit cls = true) (hnames : ∀ n ∈ names, Bundle.fit n = true)
    (hk : (Cond.classLink own ik cls).before args s = true) (hini : (Cond.initialized cls).before args s = true) (hstr : vk_R own is text sa s) (hat : ∀ w ∈ vx_atS own ic cls names, w.before args s = true)
    (hgood : ∀ w ∈ Cond.classLink own ik cls :: Cond.initialized cls :: vx_atS own ic cls names, vx_ot w = true)
    (hU : vx_Zq Bundle.tN "UNASSIGNED_STACK" Bundle.steD A s s.heap) (hN : vx_Zq Bundle.tN "SUPPRESSED_SENTINEL" Bundle.listD A s s.heap) (hS : va_S A s.heap H locs) (hsize : ls.size = c.maxLocals)
    (d0 : decode cc pc = .ok (.new ik, 3)) (d3 : decode cc (pc + 3) = .ok (.dup, 1)) (d4 : decode cc (pc + 4) = .ok (.ldc is, 2)) (d6 : decode cc (pc + 6) = .ok (.invokespecial ic, 3)) (d9 : decode cc (pc + 9) = .ok (.athrow, 1))
    (hout : ∀ x ∈ c.exceptionTable.toList, covers x (pc + 9) = false)
    (hRframes : names.length + 3 < R.frames) (hRlocals : (rest.map fun v => v.category).sum + (13 * (names.length + 1) + 43) ≤ R.locals) (hRcells : cells + 1 ≤ R.cells) (hRslots : slots + 6 ≤ R.slots) (hlocks : meth.locks = false)
    (hx : ∀ t : State, s.vm.Alike t.vm → H.size ≤ t.heap.size → (∀ q : Nat, q < H.size → t.heap[q]? = H[q]?) → XC cls s t)
    (hf : ∀ z ∈ locs, free z.base) (hc : cells + 1 ≤ mc) (hs : slots + 6 ≤ ms) :
    W p l e R s m args below meth c H locs cells slots (vx_MQ below Qc XC args s mc ms free) (F0 m pc ls rest) := by
  intro T hT X
  have htr : e.platform.stackTraces = false := (show e.platform.stackTraces = l.stackTraces by rw [X.admits.platform]).trans hl
  have Y := vx_rebase X (R' := { frames := R.frames, locals := R.locals, cells := 1, slots := 6 }) (Nat.le_refl _) (Nat.le_refl _) hRcells hRslots
  obtain ⟨s', hA⟩ : ∃ z, z = (T.setVm s.vm).setFrames (.invoking m args :: below) := ⟨_, rfl⟩
  rw [← hA] at Y
  have hvm : s'.vm = s.vm := by rw [hA]; rfl
  have hhp : s'.heap = H := by rw [hA]; exact hT
  have hW0 : s.WarmedH s'.vm := by rw [hvm]; exact State.WarmedH.refl s
  have hat' : ∀ w ∈ vx_atS own ic cls names, w.before args s' = true := fun w hw => vx_ot_at hW0 hvm.symm (hgood w (List.mem_cons_of_mem _ (List.mem_cons_of_mem _ hw))) (hat w hw)
  have hk' : (Cond.classLink own ik cls).before args s' = true := vx_ot_at hW0 hvm.symm (hgood _ List.mem_cons_self) hk
  have hini' : (Cond.initialized cls).before args s' = true := vx_ot_at hW0 hvm.symm (hgood _ (List.mem_cons_of_mem _ List.mem_cons_self)) hini
  have hU' : vx_Zq Bundle.tN "UNASSIGNED_STACK" Bundle.steD A s' s'.heap := by rw [hhp]; exact vx_Zq.moved hW0.alike (hU.kept hS.2.1)
  have hN' : vx_Zq Bundle.tN "SUPPRESSED_SENTINEL" Bundle.listD A s' s'.heap := by rw [hhp]; exact vx_Zq.moved hW0.alike (hN.kept hS.2.1)
  have h : ∀ w ∈ Bundle.ownAtoms own ic cls names, w.before args s' = true := vx_own hat' (vx_isRefq hU'.1) (vx_isRefq hN'.1) hU'.2.word hN'.2.word
  have hown' : s'.vm.findClass own = some m.cls := by rw [hvm]; exact hown
  have hins : (Cond.instantiable cls 6).before args s' = true := h _ (by simp [Bundle.ownAtoms])
  obtain ⟨vm₁, cX, kX, hfX, hkX, -, -, X₁, st1⟩ := Y.newCold hexec (own := own) (C := cls) (index := ik) (n := 6) hown' hk' hins hini'
    (g := F0 m pc ls rest) rfl (by rw [hb]; exact d0) (Nat.le_refl _) (Nat.le_refl _)
  generalize hT1 : (T.setVm vm₁).pushCell { cls := cX, slots := kX.instanceTypes.map defaultValue, vm := .none } = T1 at X₁ st1
  have hcat : (Value.ref T.heap.size).category = 1 := rfl
  have hcellA : T1.heap[T.heap.size]? = some (freshCell cX kX) := by rw [← hT1]; exact State.heap_pushCell_size _ _
  have d3' : decode c.code (pc + 3) = .ok (.dup, 1) := by rw [hb]; exact d3
  have d4' : decode c.code (pc + 4) = .ok (.ldc is, 2) := by rw [hb]; exact d4
  have hstr' : vk_R own is text sa s' := vk_R.warm hW0 hstr
  obtain ⟨U, hsteps, hrun, hend, hW, hsame, ce, hce, hO⟩ := X₁.ctorThrowS hexec htr (own := own) (cls := cls) (names := names) (ic := ic) hown' hcls hnames h (fun x hx => nomatch hx) hfX hkX hcellA (by rw [hhp, hT]; exact Nat.le_refl _) (msg := .ref sa) rfl
    (g := { method := m, pc := pc + 6, locals := ls, stack := .ref sa :: .ref T.heap.size :: .ref T.heap.size :: rest, locked := none }) rfl hsize rfl rfl (rest := rest) rfl
    (by rw [hb]; exact d6) (by rw [hb]; exact d9) hout hRframes (by simp only [List.map_cons, List.sum_cons, hcat]; omega) hlocks
  obtain ⟨f1, f2⟩ := vx_frame hsame
  rw [hhp] at f1 f2
  have hWs : s.WarmedH U.vm := State.WarmedH.trans hW0 hW
  have hcl : s.vm.findClass cls = some ce.cls := by
    have h9 := hO.cls
    rw [hvm] at h9
    exact h9
  have hall : s.sameButNew ({ U with vm := s.vm } : State) locs mc ms := by
    subst hA
    obtain ⟨e1, e2⟩ := hsame
    rw [State.setFrames_setFrames] at e1
    have h2 : (T.setVm s.vm).sameButNew ({ U with vm := s.vm } : State) [] (0 + 1) (0 + 6) := ⟨e1, e2⟩
    have h3 := X.same.trans h2
    rw [List.append_nil] at h3
    exact h3.mono hc hs
  refine ⟨U, ?_, .threw T.heap.size, hrun, hend, Or.inr ⟨T.heap.size, rfl, cls, ce, locs, hx U hWs.alike f1 (fun q hq => f2 q hq (fun z hz => nomatch hz)), hce, hO.vm, hcl, hWs, hall, hf⟩⟩
  refine st1 _ ?_
  show Steps p.tables e below (T1.setTop { method := m, pc := pc + 3, locals := ls, stack := .ref T.heap.size :: rest, locked := none }) _
  jvm_step X₁.here [X₁.here.top, hexec, d3', Value.category]
  exact X₁.ldcString hexec (own := own) (text := text) (index := is) (a := sa) hown' hstr'.1 hstr'.2
    (g := { method := m, pc := pc + 4, locals := ls, stack := .ref T.heap.size :: .ref T.heap.size :: rest, locked := none }) rfl d4' _ hsteps
/-- 'throw new E("text")', the text by a wide index -/
theorem vx_throwSW {cc : ByteArray} {pc : Nat} (hexec : p.tables.exec = Jvm.exec) (hb : c.code = cc) (hl : l.stackTraces = false) {own cls text : String} {names : List String} {ik is ic mc ms sa : Nat} {A : Nat → Prop}
    (hown : s.vm.findClass own = some m.cls) (hcls : Bundle.fit cls = true) (hnames : ∀ n ∈ names, Bundle.fit n = true)
    (hk : (Cond.classLink own ik cls).before args s = true) (hini : (Cond.initialized cls).before args s = true) (hstr : vk_R own is text sa s) (hat : ∀ w ∈ vx_atS own ic cls names, w.before args s = true)
    (hgood : ∀ w ∈ Cond.classLink own ik cls :: Cond.initialized cls :: vx_atS own ic cls names, vx_ot w = true)
    (hU : vx_Zq Bundle.tN "UNASSIGNED_STACK" Bundle.steD A s s.heap) (hN : vx_Zq Bundle.tN "SUPPRESSED_SENTINEL" Bundle.listD A s s.heap) (hS : va_S A s.heap H locs) (hsize : ls.size = c.maxLocals)
    (d0 : decode cc pc = .ok (.new ik, 3)) (d3 : decode cc (pc + 3) = .ok (.dup, 1)) (d4 : decode cc (pc + 4) = .ok (.ldc_w is, 3)) (d7 : decode cc (pc + 7) = .ok (.invokespecial ic, 3)) (d10 : decode cc (pc + 10) = .ok (.athrow, 1))
    (hout : ∀ x ∈ c.exceptionTable.toList, covers x (pc + 10) = false)
    (hRframes : names.length + 3 < R.frames) (hRlocals : (rest.map fun v => v.category).sum + (13 * (names.length + 1) + 43) ≤ R.locals) (hRcells : cells + 1 ≤ R.cells) (hRslots : slots + 6 ≤ R.slots) (hlocks : meth.locks = false)
    (hx : ∀ t : State, s.vm.Alike t.vm → H.size ≤ t.heap.size → (∀ q : Nat, q < H.size → t.heap[q]? = H[q]?) → XC cls s t)
    (hf : ∀ z ∈ locs, free z.base) (hc : cells + 1 ≤ mc) (hs : slots + 6 ≤ ms) :
    W p l e R s m args below meth c H locs cells slots (vx_MQ below Qc XC args s mc ms free) (F0 m pc ls rest) := by
  intro T hT X
  have htr : e.platform.stackTraces = false := (show e.platform.stackTraces = l.stackTraces by rw [X.admits.platform]).trans hl
  have Y := vx_rebase X (R' := { frames := R.frames, locals := R.locals, cells := 1, slots := 6 }) (Nat.le_refl _) (Nat.le_refl _) hRcells hRslots
  obtain ⟨s', hA⟩ : ∃ z, z = (T.setVm s.vm).setFrames (.invoking m args :: below) := ⟨_, rfl⟩
  rw [← hA] at Y
  have hvm : s'.vm = s.vm := by rw [hA]; rfl
  have hhp : s'.heap = H := by rw [hA]; exact hT
  have hW0 : s.WarmedH s'.vm := by rw [hvm]; exact State.WarmedH.refl s
  have hat' : ∀ w ∈ vx_atS own ic cls names, w.before args s' = true := fun w hw => vx_ot_at hW0 hvm.symm (hgood w (List.mem_cons_of_mem _ (List.mem_cons_of_mem _ hw))) (hat w hw)
  have hk' : (Cond.classLink own ik cls).before args s' = true := vx_ot_at hW0 hvm.symm (hgood _ List.mem_cons_self) hk
  have hini' : (Cond.initialized cls).before args s' = true := vx_ot_at hW0 hvm.symm (hgood _ (List.mem_cons_of_mem _ List.mem_cons_self)) hini
  have hU' : vx_Zq Bundle.tN "UNASSIGNED_STACK" Bundle.steD A s' s'.heap := by rw [hhp]; exact vx_Zq.moved hW0.alike (hU.kept hS.2.1)
  have hN' : vx_Zq Bundle.tN "SUPPRESSED_SENTINEL" Bundle.listD A s' s'.heap := by rw [hhp]; exact vx_Zq.moved hW0.alike (hN.kept hS.2.1)
  have h : ∀ w ∈ Bundle.ownAtoms own ic cls names, w.before args s' = true := vx_own hat' (vx_isRefq hU'.1) (vx_isRefq hN'.1) hU'.2.word hN'.2.word
  have hown' : s'.vm.findClass own = some m.cls := by rw [hvm]; exact hown
  have hins : (Cond.instantiable cls 6).before args s' = true := h _ (by simp [Bundle.ownAtoms])
  obtain ⟨vm₁, cX, kX, hfX, hkX, -, -, X₁, st1⟩ := Y.newCold hexec (own := own) (C := cls) (index := ik) (n := 6) hown' hk' hins hini'
    (g := F0 m pc ls rest) rfl (by rw [hb]; exact d0) (Nat.le_refl _) (Nat.le_refl _)
  generalize hT1 : (T.setVm vm₁).pushCell { cls := cX, slots := kX.instanceTypes.map defaultValue, vm := .none } = T1 at X₁ st1
  have hcat : (Value.ref T.heap.size).category = 1 := rfl
  have hcellA : T1.heap[T.heap.size]? = some (freshCell cX kX) := by rw [← hT1]; exact State.heap_pushCell_size _ _
  have d3' : decode c.code (pc + 3) = .ok (.dup, 1) := by rw [hb]; exact d3
  have d4' : decode c.code (pc + 4) = .ok (.ldc_w is, 3) := by rw [hb]; exact d4
  have hstr' : vk_R own is text sa s' := vk_R.warm hW0 hstr
  obtain ⟨U, hsteps, hrun, hend, hW, hsame, ce, hce, hO⟩ := X₁.ctorThrowS hexec htr (own := own) (cls := cls) (names := names) (ic := ic) hown' hcls hnames h (fun x hx => nomatch hx) hfX hkX hcellA (by rw [hhp, hT]; exact Nat.le_refl _) (msg := .ref sa) rfl
    (g := { method := m, pc := pc + 7, locals := ls, stack := .ref sa :: .ref T.heap.size :: .ref T.heap.size :: rest, locked := none }) rfl hsize rfl rfl (rest := rest) rfl
    (by rw [hb]; exact d7) (by rw [hb]; exact d10) hout hRframes (by simp only [List.map_cons, List.sum_cons, hcat]; omega) hlocks
  obtain ⟨f1, f2⟩ := vx_frame hsame
  rw [hhp] at f1 f2
  have hWs : s.WarmedH U.vm := State.WarmedH.trans hW0 hW
  have hcl : s.vm.findClass cls = some ce.cls := by
    have h9 := hO.cls
    rw [hvm] at h9
    exact h9
  have hall : s.sameButNew ({ U with vm := s.vm } : State) locs mc ms := by
    subst hA
    obtain ⟨e1, e2⟩ := hsame
    rw [State.setFrames_setFrames] at e1
    have h2 : (T.setVm s.vm).sameButNew ({ U with vm := s.vm } : State) [] (0 + 1) (0 + 6) := ⟨e1, e2⟩
    have h3 := X.same.trans h2
    rw [List.append_nil] at h3
    exact h3.mono hc hs
  refine ⟨U, ?_, .threw T.heap.size, hrun, hend, Or.inr ⟨T.heap.size, rfl, cls, ce, locs, hx U hWs.alike f1 (fun q hq => f2 q hq (fun z hz => nomatch hz)), hce, hO.vm, hcl, hWs, hall, hf⟩⟩
  refine st1 _ ?_
  show Steps p.tables e below (T1.setTop { method := m, pc := pc + 3, locals := ls, stack := .ref T.heap.size :: rest, locked := none }) _
  jvm_step X₁.here [X₁.here.top, hexec, d3', Value.category]
  exact X₁.ldcStringW hexec (own := own) (text := text) (index := is) (a := sa) hown' hstr'.1 hstr'.2
    (g := { method := m, pc := pc + 4, locals := ls, stack := .ref T.heap.size :: .ref T.heap.size :: rest, locked := none }) rfl d4' _ hsteps
end Ends
section Bodies
variable {l : Launch}
theorem vx_ofW {y : MethodName} {ws ws' : List Cond} {rm : Room} {Pc : Array Value → State → Prop} {Qc : Array Value → State → Outcome → State → Prop} {XC : String → State → State → Prop} {mc ms : Nat} {free : Addr → Prop} {cc : ByteArray} {maxL : Nat} {ret : Option FieldType}
    (hy : plainName y.cls = true) (hw : ws = Cond.code y cc maxL ret :: ws')
    (body : ∀ p e s m args below meth c s₁, BodyLoose p l y (headSpec ws rm) cc maxL ret e s m args below meth c s₁ → c.maxLocals = maxL → (∀ x ∈ c.exceptionTable.toList, False) → Pc args s →
      W p l e (headSpec ws rm).room s m args below meth c s.heap [] 0 0 (vx_MQ below Qc XC args s mc ms free) (entryFrame m args maxL)) : vx_Met l y ws rm Pc Qc XC mc ms free := by
  refine MetFree.of_bodyS (code := cc) (maxLocals := maxL) (ret := ret) hy ?_ ?_
  · intro args s m h hn
    obtain ⟨meth, c, h1, h2, h3, h4, h5, h6, -, -⟩ := Cond.code_spec hn (atoms_spec (ws := ws) h _ (by rw [hw]; exact List.mem_cons_self))
    exact ⟨meth, c, h1, h2, h3, h4, h5, h6⟩
  · intro p e s m args below meth c s₁ B hml hP _
    have hh0 : s₁.heap = s.heap := by rw [B.state]; rfl
    have ht : ∀ x ∈ c.exceptionTable.toList, False := by
      obtain ⟨meth9, c9, h1, h2, -, -, -, -, h7, -⟩ := Cond.code_spec B.named (atoms_spec (ws := ws) B.pre _ (by rw [hw]; exact List.mem_cons_self))
      cases Option.some.inj (h1.symm.trans B.method)
      cases Option.some.inj (h2.symm.trans (Stand.of_body B).code)
      intro x hx
      rw [Array.isEmpty_iff.mp h7] at hx
      cases hx
    obtain ⟨t, a1, o, b1, b2, b3⟩ := body p e s m args below meth c s₁ B hml ht hP s₁ hh0 (Stand.of_body B)
    exact ⟨t, o, a1, b1, b2, b3⟩
/-- the table of a body with handlers -/
theorem vx_table {p : Program} {x y : MethodName} {S : Spec} {cc bytes : ByteArray} {maxL maxL' : Nat} {ret ret' : Option FieldType} {e : Env} {s s₁ : State} {m : MethodId} {args : Array Value} {below : List Frame} {meth : Method} {c : Code} {hh : List (Nat × Nat × Nat × Nat)}
    (B : BodyLoose p l y S cc maxL ret e s m args below meth c s₁) (h : (Cond.codeWith y bytes maxL' ret' hh).before args s = true) : c.exceptionTable.toList = tableOf hh := by
  obtain ⟨m9, meth9, c9, hn9, h1, h2, -, -, h6, -⟩ := Cond.codeWith_spec h
  cases Option.some.inj (hn9.symm.trans B.named)
  cases Option.some.inj (h1.symm.trans B.method)
  cases Option.some.inj (h2.symm.trans (Stand.of_body B).code)
  rw [← h6, table_eq]
end Bodies
end VXA
/-! ===== END ===== -/
/-! ===== BEGIN a static call of a method with an exception table ===== -/
section VXS
variable {p : Program} {l : Launch} {e : Env} {R : Room} {s : State} {m : MethodId} {args : Array Value} {below : List Frame} {meth : Method} {c : Code} {T : State} {H : Heap} {locs : List Loc} {cells slots : Nat}
abbrev vx_CSW (R : Room) (s : State) (args : Array Value) (own : String) (index : Nat) (y : MethodName) (bytes : ByteArray) (maxL : Nat) (ret : Option FieldType) (hh : List (Nat × Nat × Nat × Nat)) (ws : List Cond) (rm : Room) (mc ms n : Nat) : Prop :=
  (rm.cells = mc ∧ rm.slots = ms ∧ rm.frames + 1 ≤ R.frames ∧ 8 + (maxL + 11) + rm.locals ≤ R.locals ∧ (∀ w ∈ ws, ∀ (a' : Array Value) (U : State), s.WarmedH U.vm → w.before a' U = true) ∧ Cond.codeWith y bytes maxL ret hh ∈ ws) ∧
  (Cond.codeWith y bytes maxL ret hh).before args s = true ∧ (Cond.initialized y.cls).before args s = true ∧ (y.cls ≠ "java/lang/invoke/MethodHandle" ∧ y.cls ≠ "java/lang/invoke/VarHandle") ∧
  (∀ sig, parseMethodDescriptor y.desc = some sig → n = sig.parameters.length) ∧ (Cond.methodLink own index y).before args s = true ∧ (Cond.static y).before args s = true
theorem vx_cwSW {own : String} {index maxL mc ms : Nat} {y : MethodName} {bytes : ByteArray} {ret : Option FieldType} {hh : List (Nat × Nat × Nat × Nat)} {Ts ws ws' : List Cond} {rm : Room} (n : Nat) (ht : ∀ w ∈ Ts, w.before args s = true) (hT : GoodIn Ts (va_wsS own index y ws)) (hw : ws = Cond.codeWith y bytes maxL ret hh :: ws') (hrc : rm.cells = mc) (hrs : rm.slots = ms)
    (hd : y.cls ≠ "java/lang/invoke/MethodHandle" ∧ y.cls ≠ "java/lang/invoke/VarHandle" ∧ (parseMethodDescriptor y.desc).map (fun d => d.parameters.length) = some n) (hR : rm.frames + 1 ≤ R.frames ∧ 8 + (maxL + 11) + rm.locals ≤ R.locals) :
    vx_CSW R s args own index y bytes maxL ret hh ws rm mc ms n := by
  have ok : ∀ w ∈ va_wsS own index y ws, w.before args s = true := fun w h => ht w (hT w h).1
  have hG : GoodIn Ts ws := fun w h => hT w (by unfold va_wsS; exact List.mem_append_right _ h)
  have hc : Cond.codeWith y bytes maxL ret hh ∈ ws := by rw [hw]; exact List.mem_cons_self
  refine ⟨⟨hrc, hrs, hR.1, hR.2, pay_in ht hG, hc⟩, ht _ (hG _ hc).1, ok _ (by simp [va_wsS]), ⟨hd.1, hd.2.1⟩, fun sig h => ?_, ok _ (by simp [va_wsS]), ok _ (by simp [va_wsS])⟩
  have h2 := hd.2.2
  rw [h] at h2
  exact (Option.some.inj h2).symm
theorem vx_callSW (X : Stand p l e R s m args below meth c T locs cells slots) (hexec : p.tables.exec = Jvm.exec) {own : String} {index : Nat} {y : MethodName} {bytes : ByteArray} {maxL : Nat} {ret : Option FieldType} {hh : List (Nat × Nat × Nat × Nat)}
    (hown : s.vm.findClass own = some m.cls) (hlink : (Cond.methodLink own index y).before args s = true) (hstat : (Cond.static y).before args s = true) (hinit : (Cond.initialized y.cls).before args s = true)
    (hcode : (Cond.codeWith y bytes maxL ret hh).before args s = true) (hy : y.cls ≠ "java/lang/invoke/MethodHandle" ∧ y.cls ≠ "java/lang/invoke/VarHandle")
    {W9 : Nat} {Pre : Pt → Array Value → Prop} {Post : Pt → Array Value → Option Value → Pt → Prop} (hK : Back l R p e below s args y 3 W9 Pre Post)
    {g : JFrame} (hg : g.method = m) (hsize : g.locals.size = c.maxLocals) {argsL rest : List Value} (hlen : ∀ sig, parseMethodDescriptor y.desc = some sig → argsL.length = sig.parameters.length)
    (hstack : g.stack = argsL.reverse ++ rest) (hW : 2 * g.monitorRoom + (rest.map fun v => v.category).sum ≤ W9) (hdg : decode c.code g.pc = .ok (.invokestatic index, 3))
    (hpre : ∀ vm₁, s.WarmedH vm₁ → Pre ⟨T.setVm vm₁, locs, cells, slots⟩ argsL.toArray) :
    ∃ (v : Option Value) (vm₁ : Vm) (B : Pt), s.WarmedH vm₁ ∧ Stand p l e R s m args below meth c B.U B.locs B.cells B.slots ∧ Post ⟨T.setVm vm₁, locs, cells, slots⟩ argsL.toArray v B ∧
      ∀ target, Steps p.tables e below (B.U.setTop { g with pc := g.pc + 3, stack := v.toList ++ rest }) target → Steps p.tables e below (T.setTop g) target := by
  obtain ⟨mk, methM, cM, hnamed, hmethM, -, -, -, -, -, -, hsigM⟩ := Cond.codeWith_spec hcode
  have hstatic : methM.isStatic = true := Cond.static_spec hnamed hmethM hstat
  obtain ⟨kP, hkP, -⟩ := className_of_methodNamed hnamed
  have hinitP : kP.init = .initialized := Cond.initialized_spec (findClass_of_methodNamed hnamed) hkP hinit
  obtain ⟨vm₁, X₁, hstep₁⟩ := X.invokestatic hexec hown hlink hnamed hmethM hstatic hkP hinitP hy (g := g) hg (argsL := argsL) (rest := rest) (hlen _ hsigM) hstack hdg
  obtain ⟨v, B, X', hpost, hsteps⟩ := hK m meth c ⟨T.setVm vm₁, locs, cells, slots⟩ { g with stack := rest } (.invokestatic index) mk argsL.toArray X₁ hg hsize hdg hW (X₁.named hnamed) (hpre vm₁ X₁.warmed)
  exact ⟨v, vm₁, B, X₁.warmed, X', hpost, fun target h => hstep₁ _ fun acts => by rw [doInvoke_state]; exact hsteps.trans h⟩
theorem vx_runSW {y : MethodName} {bytes cc : ByteArray} {maxL nL mc ms n index : Nat} {ret : Option FieldType} {hh : List (Nat × Nat × Nat × Nat)} {ws : List Cond} {rm : Room} {Pc : Array Value → State → Prop} {Qc : Array Value → State → Outcome → State → Prop} {free : Addr → Prop} {Ts : List Cond} {own : String} {As rest : List Value} {g : JFrame}
    (S : CallFix p m c cc nL s args Ts own) (hM : Met l y ws rm Pc Qc mc ms free) (cw : vx_CSW R s args own index y bytes maxL ret hh ws rm mc ms n) (hp : PreS s H Pc As)
    (hg : g.method = m) (hn : As.length = n) (hsize : g.locals.size = nL) (hstack : g.stack = As.reverse ++ rest) (hW : 2 * g.monitorRoom + (rest.map fun v => v.category).sum ≤ 8) (hdg : decode cc g.pc = .ok (.invokestatic index, 3)) (hf : cells + mc ≤ R.cells ∧ slots + ms ≤ R.slots) :
    va_Run p l e R s m args below meth c H locs cells slots mc ms g rest (Qc As.toArray) (free) := by
  obtain ⟨⟨hrc, hrs, hfr, hlo, hws, hcw⟩, hcode, hini, hy, hlen, hl, hstt⟩ := cw
  have hK : Back l R p e below s args y 3 8 (PreOf R mc ms Pc) (PostOf Qc mc ms free) := va_backW (hh := hh) (bytes := bytes) (maxL := maxL) (ret := ret) hM hp.1 hrc hrs hfr hlo hws hcw (fun a' U hW => word_at hW (Or.inl (by first | rfl | simp [Cond.onTables, Cond.keeps, Cond.steady])) hini)
  obtain ⟨hx, hb, hml, ho, -⟩ := S
  intro T hT X
  obtain ⟨v, vm₁, ⟨U', l2, c2, s2⟩, hW₁, X', ⟨g', mk, t, L, e1, e2, hq, h1, hL, h2, h3⟩, st⟩ := vx_callSW X hx (hh := hh) (bytes := bytes) (maxL := maxL) (ret := ret) ho hl hstt hini hcode hy hK hg (hsize.trans hml.symm) (argsL := As) (rest := rest) (fun sig h => hn.trans (hlen sig h)) hstack hW (by rw [hb]; exact hdg)
    (fun vm₁ hW₁ => ⟨hf.1, hf.2, hp.2 (T.setVm vm₁) hT hW₁⟩)
  dsimp only [Pt.U, Pt.locs, Pt.cells, Pt.slots] at X' e1 e2 h1 h2 h3 st
  subst h1; subst h2; subst h3
  exact ⟨v, (T.setVm vm₁).calling g' mk As.toArray, t, U', L, hT, X', hL, e1, e2, hq, st⟩
/-- not caught here, past rows that name other classes: it goes on to the caller -/
theorem vx_outP {p : Program} {l : Launch} {e : Env} {R : Room} {s : State} {m : MethodId} {args : Array Value} {below : List Frame} {meth : Method} {c : Code} {H : Heap} {locs : List Loc} {cells slots : Nat} {free : Addr → Prop} {ls : Array Slot} {rest : List Value} {Qc : Array Value → State → Outcome → State → Prop} {XC : String → State → State → Prop}
    {pc : Nat} {own E : String} {ce : Cell} {q : Addr} {mc ms : Nat} (hown : s.vm.findClass own = some m.cls) (hlocks : meth.locks = false)
    (hpass : ∀ z ∈ c.exceptionTable.toList, covers z pc = false ∨ (z.catchType ≠ 0 ∧ ∃ nm : String, (Cond.classLink own z.catchType nm).before args s = true ∧ va_Nc E nm s)) (hcell : H[q]? = some ce) (hv : ce.vm = .none) (hcl : s.vm.findClass E = some ce.cls)
    (hx : ∀ t : State, t.heap = H → s.vm.Alike t.vm → XC E s t) (hf : ∀ z ∈ locs, free z.base) (hc : cells ≤ mc) (hs : slots ≤ ms) :
    vx_W p l e R s m args below meth c H locs cells slots (vx_MQ below Qc XC args s mc ms free) (F0 m pc ls rest) q := by
  intro T hT X
  have hpl : e.platform.magicAccessors = ({} : Platform).magicAccessors := by rw [X.admits.platform]
  obtain ⟨vm', hW', X', st⟩ := Stand.outThrough X hlocks q (g := F0 m pc ls rest) rfl rfl rfl (cell := ce) (by rw [hT]; exact hcell) (by rw [hv]; rfl)
    (by obtain ⟨k9, h9, -⟩ := Vm.findClass_spec hcl; exact ⟨k9, h9⟩) (fun z hz => by
      rcases hpass z hz with h | ⟨hz0, nm, hl1, hn1⟩
      · exact Or.inl h
      · obtain ⟨c6, hc6, hcl6⟩ := Cond.classLink_spec hown hl1 e.platform hpl
        obtain ⟨a8, b8, h1, h2, h3⟩ := hn1
        cases Option.some.inj (h1.symm.trans hcl)
        cases Option.some.inj (h2.symm.trans hc6)
        exact Or.inr ⟨hz0, _, hcl6, h3⟩)
  obtain ⟨g₀, hfr⟩ := X'.frames_eq
  have hcell9 : ((T.setVm vm').setFrames (.throwing q :: below)).heap[q]? = some ce := by
    show T.heap[q]? = some ce
    rw [hT]; exact hcell
  have hend : Ended ((T.setVm vm').setFrames (.throwing q :: below)) below (.threw q) := State.frames_setFrames _ (State.cur_lt_of_frames hfr)
  refine ⟨(T.setVm vm').setFrames (.throwing q :: below), ?_, .threw q, X'.here.running, hend, Or.inr ⟨q, rfl, E, ce, locs, hx _ hT (X'.ends _).1.alike, hcell9, hv, hcl, (X'.ends _).1, (X'.ends _).2.mono hc hs, hf⟩⟩
  rw [X.pushThrowing_eq]
  exact st
/-- a thing of a world lies in the heap -/
theorem vx_lt {D : va_G} {cl : List vw_C} {ws : va_W} {H1 : Heap} (h : va_P D cl ws H1) {k : Nat} {q : Nat × va_E} (hk : ws[k]? = some q) : q.1 < H1.size := (h k q hk).lt
end VXS
/-! ===== END ===== -/
/-! ===== BEGIN methods with a table of their own: called by a name, returning or throwing ===== -/
section VXH
/-! vx_backW, vx_callVX, vx_callSX, vx_callVW, vx_runVW, vx_runVX, vx_runSX, vx_ofWH follow the same proofs as their sisters above (Free/Laws.lean, Shelf42/LK1.lean); vx_outP calls Shelf42/NT130.lean (outThrough). -/
section
variable {l : Launch} {R : Room} {p : Program} {e : Env} {below : List Frame} {s : State} {sargs : Array Value} {y : MethodName} {len W9 : Nat}
theorem vx_backW {ws : List Cond} {rm : Room} {Pc : Array Value → State → Prop} {Qc : Array Value → State → Outcome → State → Prop} {XC : String → State → State → Prop} {mc ms : Nat} {free : Addr → Prop} {bytes : ByteArray} {maxL : Nat} {ret : Option FieldType} {hh : List (Nat × Nat × Nat × Nat)}
    (hM : vx_Met l y ws rm Pc Qc XC mc ms free) (hblind : FrameBlind Pc) (hrc : rm.cells = mc) (hrs : rm.slots = ms)
    (hframes : rm.frames + 1 ≤ R.frames) (hlocals : W9 + (maxL + 11) + rm.locals ≤ R.locals)
    (hws : ∀ w ∈ ws, ∀ a' U, s.WarmedH U.vm → w.before a' U = true) (hcode : Cond.codeWith y bytes maxL ret hh ∈ ws) (hinit : ∀ a' U, s.WarmedH U.vm → (Cond.initialized y.cls).before a' U = true) :
    vx_Back l R p e below s sargs y len W9 (PreOf R mc ms Pc) (PostOf Qc mc ms free) (vx_Post XC mc ms free) := by
  intro m meth c A g ig mk a X hg hsize hdg hW hn hp
  have h1 : (headSpec ws rm).pre.before a A.U = true := atoms_intro fun w hw => hws w hw _ _ X.warmed
  have h2 : (Cond.codeWith y bytes maxL ret hh).before a A.U = true := hws _ hcode _ _ X.warmed
  have h3 : (Cond.initialized y.cls).before a A.U = true := hinit _ _ X.warmed
  have h4 : A.cells + (headSpec ws rm).room.cells ≤ R.cells := by rw [show (headSpec ws rm).room.cells = mc from hrc]; exact hp.1
  have h5 : A.slots + (headSpec ws rm).room.slots ≤ R.slots := by rw [show (headSpec ws rm).room.slots = ms from hrs]; exact hp.2.1
  have hPc : Pc a (A.U.calling g mk a) := hblind _ _ _ _ hp.2.2
  obtain ⟨U, Ls, c0, s0⟩ := A
  dsimp only [Pt.U, Pt.locs, Pt.cells, Pt.slots] at h1 h2 h3 h4 h5 X hn hPc ⊢
  obtain ⟨m9, methY, cY, hn9, hmY, hcY, -, hlY, -⟩ := Cond.codeWith_spec h2
  cases Option.some.inj (hn9.symm.trans hn)
  obtain ⟨kY, hkY, -⟩ := className_of_methodNamed hn
  have hinitY : kY.init = .initialized := Cond.initialized_spec (findClass_of_methodNamed hn) hkY h3
  have h : At U g.method c below := by rw [hg]; exact X.here
  have hlocals9 : W9 + (maxL + 11) + (headSpec ws rm).room.locals ≤ R.locals := hlocals
  have happ : (headSpec ws rm).appliesLoose y e.platform (U.calling g mk a) = true :=
    Spec.appliesLoose_calling (g := g) h hdg hn hkY hinitY
      (X.room_calling (g := g) (R' := (headSpec ws rm).room) hsize hmY hcY hframes (by rw [hlY]; omega) h4 h5) h1
  obtain ⟨mid, hmid⟩ := h.above
  have hfr : (U.setTop g).frames = (.java g :: mid) ++ below := by rw [State.frames_setTop' g h.top, hmid]; rfl
  obtain ⟨o, s₂, hsteps, -, hend, hq⟩ := Steps.callFree hM p X.admits X.cas X.clock (acts := []) hfr happ hPc trivial
  have hq' : vx_Q Qc XC mc ms free a (U.calling g mk a) o s₂ := hq
  rw [State.frames_setTop' g h.top] at hend
  obtain ⟨g₀, hg0⟩ := Option.isSome_iff_exists.mp h.top
  obtain ⟨r, hr⟩ := State.topJava?_eq_some.mp hg0
  have hr' : (({ U with heap := s₂.heap, slotsUsed := s₂.slotsUsed } : State).setVm s₂.vm).frames = .java g₀ :: r := hr
  rcases hq' with ⟨hqc, L, hfe, hL⟩ | ⟨q, rfl, E, ce, L, hx, hce, hcv, hcl, hW₂, hsm, hL⟩
  · obtain ⟨⟨v, rfl⟩, hW₂, e2, q2, q3, q4, q5, q6⟩ := id hfe
    have e3 : s₂ = ({ (U.calling g mk a).setFrames s₂.frames with heap := s₂.heap, slotsUsed := s₂.slotsUsed } : State).setVm s₂.vm := by
      have : s₂ = ({ s₂ with vm := (U.calling g mk a).vm } : State).setVm s₂.vm := rfl
      rw [e2] at this
      exact this
    obtain ⟨c₂, i₂, len₂, hc₂, hd₂, hf₂⟩ := hend
    have hW' : U.WarmedH s₂.vm := hW₂
    have hcc : c₂ = c := by
      have h1 : s₂.code? g.method = U.code? g.method := by
        rw [State.code?_eq, State.code?_eq, hW'.alike.method?]
      exact Option.some.inj (hc₂.symm.trans (h1.trans h.code))
    subst hcc
    have hlen : len₂ = len := by rw [hdg] at hd₂; cases hd₂; rfl
    subst hlen
    have hs₂ : s₂ = (({ U with heap := s₂.heap, slotsUsed := s₂.slotsUsed } : State).setVm s₂.vm).setTop { g with pc := g.pc + len₂, stack := v.toList ++ g.stack } := by
      refine e3.trans ?_
      rw [hf₂, State.calling_eq h.top, State.setFrames_setFrames, State.setTop_of_frames _ hr', hr]
      rfl
    have hsame : U.sameButNew ({ U with heap := s₂.heap, slotsUsed := s₂.slotsUsed } : State) L mc ms := by
      refine ⟨?_, q2, q3, q4, q5, q6⟩
      obtain ⟨t, ht, -⟩ := State.frames_cons hr
      show ({ U with heap := s₂.heap, slotsUsed := s₂.slotsUsed } : State) = { U.setFrames U.frames with heap := s₂.heap, slotsUsed := s₂.slotsUsed }
      rw [State.setFrames_self ht]
    subst hg
    refine Or.inl ⟨v, ⟨(({ U with heap := s₂.heap, slotsUsed := s₂.slotsUsed } : State).setVm s₂.vm), Ls ++ L, c0 + mc, s0 + ms⟩,
      ⟨X.admits, X.cas, X.clock, X.frames, X.room, X.hears, X.method, X.code, (X.here.setHeapUsed s₂.heap s₂.slotsUsed).setVm hW'.alike, X.tail, State.WarmedH.trans X.warmed hW', X.limits, X.bytes, X.same.trans (hsame.setVm s.vm)⟩,
      ⟨g, mk, s₂, L, rfl, rfl, hqc, rfl, hL, rfl, rfl⟩, ?_⟩
    show Steps p.tables e below _ ((({ U with heap := s₂.heap, slotsUsed := s₂.slotsUsed } : State).setVm s₂.vm).setTop { g with pc := g.pc + len₂, stack := v.toList ++ g.stack })
    rw [← hs₂]
    exact hsteps
  · obtain ⟨e2, q2, q3, q4, q5, q6⟩ := id hsm
    have e3 : s₂ = ({ (U.calling g mk a).setFrames s₂.frames with heap := s₂.heap, slotsUsed := s₂.slotsUsed } : State).setVm s₂.vm := by
      have : s₂ = ({ s₂ with vm := (U.calling g mk a).vm } : State).setVm s₂.vm := rfl
      rw [e2] at this
      exact this
    have hf₂ : s₂.frames = .throwing q :: .java g :: U.frames.tail := hend
    have hW' : U.WarmedH s₂.vm := hW₂
    have hs₂ : s₂ = ((({ U with heap := s₂.heap, slotsUsed := s₂.slotsUsed } : State).setVm s₂.vm).setTop g).pushFrame (.throwing q) := by
      refine e3.trans ?_
      rw [hf₂, State.calling_eq h.top, State.setFrames_setFrames, State.pushFrame, State.frames_setTop _ hr', State.setTop_of_frames _ hr', State.setFrames_setFrames, hr]
      rfl
    have hsame : U.sameButNew ({ U with heap := s₂.heap, slotsUsed := s₂.slotsUsed } : State) L mc ms := by
      refine ⟨?_, q2, q3, q4, q5, q6⟩
      obtain ⟨t, ht, -⟩ := State.frames_cons hr
      show ({ U with heap := s₂.heap, slotsUsed := s₂.slotsUsed } : State) = { U.setFrames U.frames with heap := s₂.heap, slotsUsed := s₂.slotsUsed }
      rw [State.setFrames_self ht]
    subst hg
    refine Or.inr ⟨q, ⟨(({ U with heap := s₂.heap, slotsUsed := s₂.slotsUsed } : State).setVm s₂.vm), Ls ++ L, c0 + mc, s0 + ms⟩,
      ⟨X.admits, X.cas, X.clock, X.frames, X.room, X.hears, X.method, X.code, (X.here.setHeapUsed s₂.heap s₂.slotsUsed).setVm hW'.alike, X.tail, State.WarmedH.trans X.warmed hW', X.limits, X.bytes, X.same.trans (hsame.setVm s.vm)⟩,
      ⟨g, mk, s₂, L, E, ce, rfl, rfl, hx, hce, hcv, hcl, rfl, hL, rfl, rfl⟩, ?_⟩
    show Steps p.tables e below _ (((({ U with heap := s₂.heap, slotsUsed := s₂.slotsUsed } : State).setVm s₂.vm).setTop g).pushFrame (.throwing q))
    rw [← hs₂]
    exact hsteps
end
variable {p : Program} {l : Launch} {e : Env} {R : Room} {s : State} {m : MethodId} {args : Array Value} {below : List Frame} {meth : Method} {c : Code} {T : State} {H : Heap} {locs : List Loc} {cells slots : Nat}
theorem vx_callVX (X : Stand p l e R s m args below meth c T locs cells slots) (hexec : p.tables.exec = Jvm.exec) {own C : String} {index : Nat} {y : MethodName} {bytes : ByteArray} {maxL : Nat} {ret : Option FieldType} {hh : List (Nat × Nat × Nat × Nat)}
    (hown : s.vm.findClass own = some m.cls) (hlink : (Cond.methodLink own index y).before args s = true) (hinst : (Cond.instanceMethod y).before args s = true) (hsel : (Cond.selects C y y).before args s = true)
    (hcode : (Cond.codeWith y bytes maxL ret hh).before args s = true) (hy : y.cls ≠ "java/lang/invoke/MethodHandle" ∧ y.cls ≠ "java/lang/invoke/VarHandle")
    {W9 : Nat} {Pre : Pt → Array Value → Prop} {Post : Pt → Array Value → Option Value → Pt → Prop} {PostX : Pt → Array Value → Addr → Pt → Prop} (hK : vx_Back l R p e below s args y 3 W9 Pre Post PostX)
    {b : Addr} {cellB : Cell} (hcell : T.heap[b]? = some cellB) (hobj : cellB.vm.isStatics = false) (hcls : s.vm.findClass C = some cellB.cls)
    {g : JFrame} (hg : g.method = m) (hsize : g.locals.size = c.maxLocals) {argsL rest : List Value} (hlen : ∀ sig, parseMethodDescriptor y.desc = some sig → argsL.length = sig.parameters.length)
    (hstack : g.stack = argsL.reverse ++ .ref b :: rest) (hW : 2 * g.monitorRoom + (rest.map fun v => v.category).sum ≤ W9) (hdg : decode c.code g.pc = .ok (.invokevirtual index, 3))
    (hpre : ∀ vm₁, s.WarmedH vm₁ → Pre ⟨T.setVm vm₁, locs, cells, slots⟩ (Value.ref b :: argsL).toArray) :
    (∃ (v : Option Value) (vm₁ : Vm) (B : Pt), s.WarmedH vm₁ ∧ Stand p l e R s m args below meth c B.U B.locs B.cells B.slots ∧ Post ⟨T.setVm vm₁, locs, cells, slots⟩ (Value.ref b :: argsL).toArray v B ∧
      ∀ target, Steps p.tables e below (B.U.setTop { g with pc := g.pc + 3, stack := v.toList ++ rest }) target → Steps p.tables e below (T.setTop g) target) ∨
    (∃ (q : Addr) (vm₁ : Vm) (B : Pt), s.WarmedH vm₁ ∧ Stand p l e R s m args below meth c B.U B.locs B.cells B.slots ∧ PostX ⟨T.setVm vm₁, locs, cells, slots⟩ (Value.ref b :: argsL).toArray q B ∧
      Steps p.tables e below (T.setTop g) ((B.U.setTop { g with stack := rest }).pushFrame (.throwing q))) := by
  obtain ⟨mk, methM, hnamed, hmethM, hstM, habM⟩ := Cond.instanceMethod_spec hinst
  obtain ⟨m8, methM', cM, hn8, hmethM', -, -, -, -, -, -, hsigM⟩ := Cond.codeWith_spec hcode
  cases Option.some.inj (hn8.symm.trans hnamed)
  cases hmethM.symm.trans hmethM'
  obtain ⟨c2, r2, m2, q1, q2, q3, q4, kP, hkP, hkPi⟩ := Cond.selects_spec hsel
  cases hcls.symm.trans q1
  cases (State.methodFound?_of_named hnamed hy).symm.trans q2
  cases hnamed.symm.trans q3
  have hselP : selectMethod e.platform s.vm cellB.cls mk = .method mk := by rw [Launch.admits_selectMethod X.admits]; exact q4
  obtain ⟨vm₁, X₁, hstep₁⟩ := X.invokevirtual hexec hown hlink hnamed hmethM hstM hkP hkPi hy (a := b) (cell := cellB) hcell
    (fun z h => by rw [h] at hobj; cases hobj) hselP hmethM habM hkP hkPi (g := g) hg (argsL := argsL) (rest := rest) (hlen _ hsigM) hstack hdg
  rcases hK m meth c ⟨T.setVm vm₁, locs, cells, slots⟩ { g with stack := rest } (.invokevirtual index) mk (Value.ref b :: argsL).toArray X₁ hg hsize hdg hW (X₁.named hnamed) (hpre vm₁ X₁.warmed) with ⟨v, B, X', hpost, hsteps⟩ | ⟨q, B, X', hpost, hsteps⟩
  · exact Or.inl ⟨v, vm₁, B, X₁.warmed, X', hpost, fun target h => hstep₁ _ fun acts => by rw [doInvoke_state]; exact hsteps.trans h⟩
  · exact Or.inr ⟨q, vm₁, B, X₁.warmed, X', hpost, hstep₁ _ fun acts => by rw [doInvoke_state]; exact hsteps⟩
theorem vx_callSX (X : Stand p l e R s m args below meth c T locs cells slots) (hexec : p.tables.exec = Jvm.exec) {own : String} {index : Nat} {y : MethodName} {bytes : ByteArray} {maxL : Nat} {ret : Option FieldType} {hh : List (Nat × Nat × Nat × Nat)}
    (hown : s.vm.findClass own = some m.cls) (hlink : (Cond.methodLink own index y).before args s = true) (hstat : (Cond.static y).before args s = true) (hinit : (Cond.initialized y.cls).before args s = true)
    (hcode : (Cond.codeWith y bytes maxL ret hh).before args s = true) (hy : y.cls ≠ "java/lang/invoke/MethodHandle" ∧ y.cls ≠ "java/lang/invoke/VarHandle")
    {W9 : Nat} {Pre : Pt → Array Value → Prop} {Post : Pt → Array Value → Option Value → Pt → Prop} {PostX : Pt → Array Value → Addr → Pt → Prop} (hK : vx_Back l R p e below s args y 3 W9 Pre Post PostX)
    {g : JFrame} (hg : g.method = m) (hsize : g.locals.size = c.maxLocals) {argsL rest : List Value} (hlen : ∀ sig, parseMethodDescriptor y.desc = some sig → argsL.length = sig.parameters.length)
    (hstack : g.stack = argsL.reverse ++ rest) (hW : 2 * g.monitorRoom + (rest.map fun v => v.category).sum ≤ W9) (hdg : decode c.code g.pc = .ok (.invokestatic index, 3))
    (hpre : ∀ vm₁, s.WarmedH vm₁ → Pre ⟨T.setVm vm₁, locs, cells, slots⟩ argsL.toArray) :
    (∃ (v : Option Value) (vm₁ : Vm) (B : Pt), s.WarmedH vm₁ ∧ Stand p l e R s m args below meth c B.U B.locs B.cells B.slots ∧ Post ⟨T.setVm vm₁, locs, cells, slots⟩ argsL.toArray v B ∧
      ∀ target, Steps p.tables e below (B.U.setTop { g with pc := g.pc + 3, stack := v.toList ++ rest }) target → Steps p.tables e below (T.setTop g) target) ∨
    (∃ (q : Addr) (vm₁ : Vm) (B : Pt), s.WarmedH vm₁ ∧ Stand p l e R s m args below meth c B.U B.locs B.cells B.slots ∧ PostX ⟨T.setVm vm₁, locs, cells, slots⟩ argsL.toArray q B ∧
      Steps p.tables e below (T.setTop g) ((B.U.setTop { g with stack := rest }).pushFrame (.throwing q))) := by
  obtain ⟨mk, methM, cM, hnamed, hmethM, -, -, -, -, -, -, hsigM⟩ := Cond.codeWith_spec hcode
  have hstatic : methM.isStatic = true := Cond.static_spec hnamed hmethM hstat
  obtain ⟨kP, hkP, -⟩ := className_of_methodNamed hnamed
  have hinitP : kP.init = .initialized := Cond.initialized_spec (findClass_of_methodNamed hnamed) hkP hinit
  obtain ⟨vm₁, X₁, hstep₁⟩ := X.invokestatic hexec hown hlink hnamed hmethM hstatic hkP hinitP hy (g := g) hg (argsL := argsL) (rest := rest) (hlen _ hsigM) hstack hdg
  rcases hK m meth c ⟨T.setVm vm₁, locs, cells, slots⟩ { g with stack := rest } (.invokestatic index) mk argsL.toArray X₁ hg hsize hdg hW (X₁.named hnamed) (hpre vm₁ X₁.warmed) with ⟨v, B, X', hpost, hsteps⟩ | ⟨q, B, X', hpost, hsteps⟩
  · exact Or.inl ⟨v, vm₁, B, X₁.warmed, X', hpost, fun target h => hstep₁ _ fun acts => by rw [doInvoke_state]; exact hsteps.trans h⟩
  · exact Or.inr ⟨q, vm₁, B, X₁.warmed, X', hpost, hstep₁ _ fun acts => by rw [doInvoke_state]; exact hsteps⟩
theorem vx_callVW (X : Stand p l e R s m args below meth c T locs cells slots) (hexec : p.tables.exec = Jvm.exec) {own C : String} {index : Nat} {y : MethodName} {bytes : ByteArray} {maxL : Nat} {ret : Option FieldType} {hh : List (Nat × Nat × Nat × Nat)}
    (hown : s.vm.findClass own = some m.cls) (hlink : (Cond.methodLink own index y).before args s = true) (hinst : (Cond.instanceMethod y).before args s = true) (hsel : (Cond.selects C y y).before args s = true)
    (hcode : (Cond.codeWith y bytes maxL ret hh).before args s = true) (hy : y.cls ≠ "java/lang/invoke/MethodHandle" ∧ y.cls ≠ "java/lang/invoke/VarHandle")
    {W9 : Nat} {Pre : Pt → Array Value → Prop} {Post : Pt → Array Value → Option Value → Pt → Prop} (hK : Back l R p e below s args y 3 W9 Pre Post)
    {b : Addr} {cellB : Cell} (hcell : T.heap[b]? = some cellB) (hobj : cellB.vm.isStatics = false) (hcls : s.vm.findClass C = some cellB.cls)
    {g : JFrame} (hg : g.method = m) (hsize : g.locals.size = c.maxLocals) {argsL rest : List Value} (hlen : ∀ sig, parseMethodDescriptor y.desc = some sig → argsL.length = sig.parameters.length)
    (hstack : g.stack = argsL.reverse ++ .ref b :: rest) (hW : 2 * g.monitorRoom + (rest.map fun v => v.category).sum ≤ W9) (hdg : decode c.code g.pc = .ok (.invokevirtual index, 3))
    (hpre : ∀ vm₁, s.WarmedH vm₁ → Pre ⟨T.setVm vm₁, locs, cells, slots⟩ (Value.ref b :: argsL).toArray) :
    ∃ (v : Option Value) (vm₁ : Vm) (B : Pt), s.WarmedH vm₁ ∧ Stand p l e R s m args below meth c B.U B.locs B.cells B.slots ∧ Post ⟨T.setVm vm₁, locs, cells, slots⟩ (Value.ref b :: argsL).toArray v B ∧
      ∀ target, Steps p.tables e below (B.U.setTop { g with pc := g.pc + 3, stack := v.toList ++ rest }) target → Steps p.tables e below (T.setTop g) target := by
  obtain ⟨mk, methM, hnamed, hmethM, hstM, habM⟩ := Cond.instanceMethod_spec hinst
  obtain ⟨m8, methM', cM, hn8, hmethM', -, -, -, -, -, -, hsigM⟩ := Cond.codeWith_spec hcode
  cases Option.some.inj (hn8.symm.trans hnamed)
  cases hmethM.symm.trans hmethM'
  obtain ⟨c2, r2, m2, q1, q2, q3, q4, kP, hkP, hkPi⟩ := Cond.selects_spec hsel
  cases hcls.symm.trans q1
  cases (State.methodFound?_of_named hnamed hy).symm.trans q2
  cases hnamed.symm.trans q3
  have hselP : selectMethod e.platform s.vm cellB.cls mk = .method mk := by rw [Launch.admits_selectMethod X.admits]; exact q4
  obtain ⟨vm₁, X₁, hstep₁⟩ := X.invokevirtual hexec hown hlink hnamed hmethM hstM hkP hkPi hy (a := b) (cell := cellB) hcell
    (fun z h => by rw [h] at hobj; cases hobj) hselP hmethM habM hkP hkPi (g := g) hg (argsL := argsL) (rest := rest) (hlen _ hsigM) hstack hdg
  obtain ⟨v, B, X', hpost, hsteps⟩ := hK m meth c ⟨T.setVm vm₁, locs, cells, slots⟩ { g with stack := rest } (.invokevirtual index) mk (Value.ref b :: argsL).toArray X₁ hg hsize hdg hW (X₁.named hnamed) (hpre vm₁ X₁.warmed)
  exact ⟨v, vm₁, B, X₁.warmed, X', hpost, fun target h => hstep₁ _ fun acts => by rw [doInvoke_state]; exact hsteps.trans h⟩
abbrev vx_CVW (R : Room) (s : State) (args : Array Value) (own C : String) (index : Nat) (y : MethodName) (bytes : ByteArray) (maxL : Nat) (ret : Option FieldType) (hh : List (Nat × Nat × Nat × Nat)) (ws : List Cond) (rm : Room) (mc ms n : Nat) : Prop :=
  (rm.cells = mc ∧ rm.slots = ms ∧ rm.frames + 1 ≤ R.frames ∧ 8 + (maxL + 11) + rm.locals ≤ R.locals ∧ (∀ w ∈ ws, ∀ (a' : Array Value) (U : State), s.WarmedH U.vm → w.before a' U = true) ∧ Cond.codeWith y bytes maxL ret hh ∈ ws) ∧
  (Cond.codeWith y bytes maxL ret hh).before args s = true ∧ (Cond.initialized y.cls).before args s = true ∧ (y.cls ≠ "java/lang/invoke/MethodHandle" ∧ y.cls ≠ "java/lang/invoke/VarHandle") ∧
  (∀ sig, parseMethodDescriptor y.desc = some sig → n = sig.parameters.length) ∧ (Cond.methodLink own index y).before args s = true ∧ (Cond.instanceMethod y).before args s = true ∧ (Cond.selects C y y).before args s = true
theorem vx_cwVW {own C : String} {index maxL mc ms : Nat} {y : MethodName} {bytes : ByteArray} {ret : Option FieldType} {hh : List (Nat × Nat × Nat × Nat)} {Ts ws ws' : List Cond} {rm : Room} (n : Nat) (ht : ∀ w ∈ Ts, w.before args s = true) (hT : GoodIn Ts (wsV own index C y ws)) (hw : ws = Cond.codeWith y bytes maxL ret hh :: ws') (hrc : rm.cells = mc) (hrs : rm.slots = ms)
    (hd : y.cls = C ∧ y.cls ≠ "java/lang/invoke/MethodHandle" ∧ y.cls ≠ "java/lang/invoke/VarHandle" ∧ (parseMethodDescriptor y.desc).map (fun d => d.parameters.length) = some n) (hR : rm.frames + 1 ≤ R.frames ∧ 8 + (maxL + 11) + rm.locals ≤ R.locals) :
    vx_CVW R s args own C index y bytes maxL ret hh ws rm mc ms n := by
  obtain ⟨hC, hd⟩ := hd
  subst hC
  have ok : ∀ w ∈ wsV own index y.cls y ws, w.before args s = true := fun w h => ht w (hT w h).1
  have hG : GoodIn Ts ws := fun w h => hT w (by unfold wsV; exact List.mem_append_right _ h)
  have hc : Cond.codeWith y bytes maxL ret hh ∈ ws := by rw [hw]; exact List.mem_cons_self
  refine ⟨⟨hrc, hrs, hR.1, hR.2, pay_in ht hG, hc⟩, ht _ (hG _ hc).1, ok _ (by simp [wsV]), ⟨hd.1, hd.2.1⟩, fun sig h => ?_, ok _ (by simp [wsV]), ok _ (by simp [wsV]), ok _ (by simp [wsV])⟩
  have h2 := hd.2.2
  rw [h] at h2
  exact (Option.some.inj h2).symm
theorem vx_runVW {y : MethodName} {bytes cc : ByteArray} {maxL nL mc ms n index : Nat} {ret : Option FieldType} {hh : List (Nat × Nat × Nat × Nat)} {ws : List Cond} {rm : Room} {Pc : Array Value → State → Prop} {Qc : Array Value → State → Outcome → State → Prop} {free : Addr → Prop} {Ts : List Cond} {own C : String} {b : Addr} {As rest : List Value} {g : JFrame}
    (S : CallFix p m c cc nL s args Ts own) (hM : Met l y ws rm Pc Qc mc ms free) (cw : vx_CVW R s args own C index y bytes maxL ret hh ws rm mc ms n) (hp : PreV s H C b Pc As)
    (hg : g.method = m) (hn : As.length = n) (hsize : g.locals.size = nL) (hstack : g.stack = As.reverse ++ .ref b :: rest) (hW : 2 * g.monitorRoom + (rest.map fun v => v.category).sum ≤ 8) (hdg : decode cc g.pc = .ok (.invokevirtual index, 3)) (hf : cells + mc ≤ R.cells ∧ slots + ms ≤ R.slots) :
    va_Run p l e R s m args below meth c H locs cells slots mc ms g rest (Qc (Value.ref b :: As).toArray) free := by
  obtain ⟨⟨hrc, hrs, hfr, hlo, hws, hcw⟩, hcode, hini, hy, hlen, hl, hin, hse⟩ := cw
  have hK : Back l R p e below s args y 3 8 (PreOf R mc ms Pc) (PostOf Qc mc ms free) := va_backW (hh := hh) (bytes := bytes) (maxL := maxL) (ret := ret) hM hp.1 hrc hrs hfr hlo hws hcw (fun a' U hW => word_at hW (Or.inl (by first | rfl | simp [Cond.onTables, Cond.keeps, Cond.steady])) hini)
  obtain ⟨hx, hb, hml, ho, -⟩ := S
  obtain ⟨-, ⟨cellB, hcB, hoB, hclB⟩, hPc⟩ := hp
  intro T hT X
  obtain ⟨v, vm₁, ⟨U', l2, c2, s2⟩, hW₁, X', ⟨g', mk, t, L, e1, e2, hq, h1, hL, h2, h3⟩, st⟩ := vx_callVW X hx (C := C) (hh := hh) (bytes := bytes) (maxL := maxL) (ret := ret) ho hl hin hse hcode hy hK (by rw [hT]; exact hcB) hoB hclB hg (hsize.trans hml.symm) (argsL := As) (rest := rest) (fun sig h => hn.trans (hlen sig h)) hstack hW (by rw [hb]; exact hdg)
    (fun vm₁ hW₁ => ⟨hf.1, hf.2, hPc (T.setVm vm₁) hT hW₁⟩)
  dsimp only [Pt.U, Pt.locs, Pt.cells, Pt.slots] at X' e1 e2 h1 h2 h3 st
  subst h1; subst h2; subst h3
  exact ⟨v, (T.setVm vm₁).calling g' mk (Value.ref b :: As).toArray, t, U', L, hT, X', hL, e1, e2, hq, st⟩
section
variable {y : MethodName} {bytes cc : ByteArray} {maxL nL mc ms n index : Nat} {ret : Option FieldType} {ws : List Cond} {rm : Room} {Pc : Array Value → State → Prop} {Qc : Array Value → State → Outcome → State → Prop} {XC : String → State → State → Prop} {free : Addr → Prop} {Ts : List Cond} {own C : String} {b : Addr} {As rest : List Value} {g : JFrame}
theorem vx_runVX {hh : List (Nat × Nat × Nat × Nat)} (S : CallFix p m c cc nL s args Ts own) (hM : vx_Met l y ws rm Pc Qc XC mc ms free) (cw : vx_CVW R s args own C index y bytes maxL ret hh ws rm mc ms n) (hp : PreV s H C b Pc As)
    (hg : g.method = m) (hn : As.length = n) (hsize : g.locals.size = nL) (hstack : g.stack = As.reverse ++ .ref b :: rest) (hW : 2 * g.monitorRoom + (rest.map fun v => v.category).sum ≤ 8) (hdg : decode cc g.pc = .ok (.invokevirtual index, 3)) (hf : cells + mc ≤ R.cells ∧ slots + ms ≤ R.slots) :
    vx_Run p l e R s m args below meth c H locs cells slots mc ms g rest (Qc (Value.ref b :: As).toArray) XC free := by
  obtain ⟨⟨hrc, hrs, hfr, hlo, hws, hcw⟩, hcode, hini, hy, hlen, hl, hin, hse⟩ := cw
  have hK : vx_Back l R p e below s args y 3 8 (PreOf R mc ms Pc) (PostOf Qc mc ms free) (vx_Post XC mc ms free) := vx_backW (hh := hh) (bytes := bytes) (maxL := maxL) (ret := ret) hM hp.1 hrc hrs hfr hlo hws hcw (fun a' U hW => word_at hW (Or.inl (by first | rfl | simp [Cond.onTables, Cond.keeps, Cond.steady])) hini)
  obtain ⟨hx, hb, hml, ho, -⟩ := S
  obtain ⟨-, ⟨cellB, hcB, hoB, hclB⟩, hPc⟩ := hp
  intro T hT X
  rcases vx_callVX X hx (C := C) (hh := hh) (bytes := bytes) (maxL := maxL) (ret := ret) ho hl hin hse hcode hy hK (by rw [hT]; exact hcB) hoB hclB hg (hsize.trans hml.symm) (argsL := As) (rest := rest) (fun sig h => hn.trans (hlen sig h)) hstack hW (by rw [hb]; exact hdg)
    (fun vm₁ hW₁ => ⟨hf.1, hf.2, hPc (T.setVm vm₁) hT hW₁⟩) with ⟨v, vm₁, ⟨U', l2, c2, s2⟩, hW₁, X', ⟨g', mk, t, L, e1, e2, hq, h1, hL, h2, h3⟩, st⟩ | ⟨q, vm₁, ⟨U', l2, c2, s2⟩, hW₁, X', ⟨g', mk, t, L, E, ce, e1, e2, hq, hce, hcv, hcl, h1, hL, h2, h3⟩, st⟩
  · dsimp only [Pt.U, Pt.locs, Pt.cells, Pt.slots] at X' e1 e2 h1 h2 h3 st
    subst h1; subst h2; subst h3
    exact Or.inl ⟨v, (T.setVm vm₁).calling g' mk (Value.ref b :: As).toArray, t, U', L, hT, X', hL, e1, e2, hq, st⟩
  · dsimp only [Pt.U, Pt.locs, Pt.cells, Pt.slots] at X' e1 e2 h1 h2 h3 st hcl
    subst h1; subst h2; subst h3
    exact Or.inr ⟨q, (T.setVm vm₁).calling g' mk (Value.ref b :: As).toArray, t, U', L, E, ce, hT, X', hL, e1, e2, hq, hce, hcv, vx_cls hW₁ hcl, st⟩
theorem vx_runSX {hh : List (Nat × Nat × Nat × Nat)} (S : CallFix p m c cc nL s args Ts own) (hM : vx_Met l y ws rm Pc Qc XC mc ms free) (cw : vx_CSW R s args own index y bytes maxL ret hh ws rm mc ms n) (hp : PreS s H Pc As)
    (hg : g.method = m) (hn : As.length = n) (hsize : g.locals.size = nL) (hstack : g.stack = As.reverse ++ rest) (hW : 2 * g.monitorRoom + (rest.map fun v => v.category).sum ≤ 8) (hdg : decode cc g.pc = .ok (.invokestatic index, 3)) (hf : cells + mc ≤ R.cells ∧ slots + ms ≤ R.slots) :
    vx_Run p l e R s m args below meth c H locs cells slots mc ms g rest (Qc As.toArray) XC free := by
  obtain ⟨⟨hrc, hrs, hfr, hlo, hws, hcw⟩, hcode, hini, hy, hlen, hl, hstt⟩ := cw
  have hK : vx_Back l R p e below s args y 3 8 (PreOf R mc ms Pc) (PostOf Qc mc ms free) (vx_Post XC mc ms free) := vx_backW (hh := hh) (bytes := bytes) (maxL := maxL) (ret := ret) hM hp.1 hrc hrs hfr hlo hws hcw (fun a' U hW => word_at hW (Or.inl (by first | rfl | simp [Cond.onTables, Cond.keeps, Cond.steady])) hini)
  obtain ⟨hx, hb, hml, ho, -⟩ := S
  intro T hT X
  rcases vx_callSX X hx (hh := hh) (bytes := bytes) (maxL := maxL) (ret := ret) ho hl hstt hini hcode hy hK hg (hsize.trans hml.symm) (argsL := As) (rest := rest) (fun sig h => hn.trans (hlen sig h)) hstack hW (by rw [hb]; exact hdg)
    (fun vm₁ hW₁ => ⟨hf.1, hf.2, hp.2 (T.setVm vm₁) hT hW₁⟩) with ⟨v, vm₁, ⟨U', l2, c2, s2⟩, hW₁, X', ⟨g', mk, t, L, e1, e2, hq, h1, hL, h2, h3⟩, st⟩ | ⟨q, vm₁, ⟨U', l2, c2, s2⟩, hW₁, X', ⟨g', mk, t, L, E, ce, e1, e2, hq, hce, hcv, hcl, h1, hL, h2, h3⟩, st⟩
  · dsimp only [Pt.U, Pt.locs, Pt.cells, Pt.slots] at X' e1 e2 h1 h2 h3 st
    subst h1; subst h2; subst h3
    exact Or.inl ⟨v, (T.setVm vm₁).calling g' mk As.toArray, t, U', L, hT, X', hL, e1, e2, hq, st⟩
  · dsimp only [Pt.U, Pt.locs, Pt.cells, Pt.slots] at X' e1 e2 h1 h2 h3 st hcl
    subst h1; subst h2; subst h3
    exact Or.inr ⟨q, (T.setVm vm₁).calling g' mk As.toArray, t, U', L, E, ce, hT, X', hL, e1, e2, hq, hce, hcv, vx_cls hW₁ hcl, st⟩
end
end VXH
theorem vx_ofWH {l : Launch} {y : MethodName} {ws ws' : List Cond} {rm : Room} {Pc : Array Value → State → Prop} {Qc : Array Value → State → Outcome → State → Prop} {XC : String → State → State → Prop} {mc ms : Nat} {free : Addr → Prop} {cc : ByteArray} {maxL : Nat} {ret : Option FieldType} {hh : List (Nat × Nat × Nat × Nat)}
    (hy : plainName y.cls = true) (hw : ws = Cond.codeWith y cc maxL ret hh :: ws')
    (body : ∀ p e s m args below meth c s₁, BodyLoose p l y (headSpec ws rm) cc maxL ret e s m args below meth c s₁ → c.maxLocals = maxL → Pc args s →
      W p l e (headSpec ws rm).room s m args below meth c s.heap [] 0 0 (vx_MQ below Qc XC args s mc ms free) (entryFrame m args maxL)) : vx_Met l y ws rm Pc Qc XC mc ms free := by
  refine MetFree.of_bodyS (code := cc) (maxLocals := maxL) (ret := ret) hy ?_ ?_
  · intro args s m h hn
    obtain ⟨m9, meth, c, hn9, h1, h2, h3, h4, -, h5, h6, -⟩ := Cond.codeWith_spec (atoms_spec (ws := ws) h _ (by rw [hw]; exact List.mem_cons_self))
    cases hn.symm.trans hn9
    exact ⟨meth, c, h1, h2, h3, h4, h5, h6⟩
  · intro p e s m args below meth c s₁ B hml hP _
    have hh0 : s₁.heap = s.heap := by rw [B.state]; rfl
    obtain ⟨t, a1, o, b1, b2, b3⟩ := body p e s m args below meth c s₁ B hml hP s₁ hh0 (Stand.of_body B)
    exact ⟨t, o, a1, b1, b2, b3⟩
/-! ===== END ===== -/

def RX0 : String := "VariantKit$ByteRow"
def TX0 : u_T := fun k => match k with
  | 0 => ("VariantKit$ByteRow", "row", "[I", true)
  | 1 => ("VariantKit$ByteRow", "count", "I", false)
  | _ => ("VariantKit$ByteRow", "taken", "I", false)
def tyX0 : Nat → FieldType := fun k => match k with
  | 0 => .array .int
  | 1 => .int
  | _ => .int
abbrev wsX00 : List Cond := u_ws RX0 TX0 3
theorem nmX0 : ∀ a, a < 3 → ∀ b, b < 3 → a ≠ b → (TX0 a).2.1 ≠ (TX0 b).2.1 := by decide +kernel
theorem tyX0_ok : ∀ k, k < 3 → parseFieldDescriptor (TX0 k).2.2.1 = some (tyX0 k) := by decide +kernel
abbrev cX0_init : ByteArray := prog_2_method_1_code
def yX0_init : MethodName := ⟨RX0, "<init>", "()V"⟩
abbrev cX0_put : ByteArray := prog_2_method_2_code
def yX0_put : MethodName := ⟨RX0, "put", "(I)V"⟩
abbrev cX0_putNumber : ByteArray := prog_2_method_3_code
def yX0_putNumber : MethodName := ⟨RX0, "putNumber", "(II)V"⟩
abbrev cX0_putVariant : ByteArray := prog_2_method_4_code
def yX0_putVariant : MethodName := ⟨RX0, "putVariant", "(LVariantKit$Variant;)V"⟩
abbrev cX0_putAllele : ByteArray := prog_2_method_5_code
def yX0_putAllele : MethodName := ⟨RX0, "putAllele", "(II)V"⟩
abbrev cX0_putNumbers : ByteArray := prog_2_method_6_code
def yX0_putNumbers : MethodName := ⟨RX0, "putNumbers", "([III)V"⟩
abbrev cX0_isSame : ByteArray := prog_2_method_7_code
def yX0_isSame : MethodName := ⟨RX0, "isSame", "(LVariantKit$ByteRow;)Z"⟩
abbrev cX0_take : ByteArray := prog_2_method_8_code
def yX0_take : MethodName := ⟨RX0, "take", "()I"⟩
abbrev cX0_takeNumber : ByteArray := prog_2_method_9_code
def yX0_takeNumber : MethodName := ⟨RX0, "takeNumber", "(I)I"⟩
abbrev cX0_takeVariant : ByteArray := prog_2_method_10_code
def yX0_takeVariant : MethodName := ⟨RX0, "takeVariant", "(LVariantKit$Variant;LVariantKit$Reference;)Z"⟩
abbrev cX0_takeAlleles : ByteArray := prog_2_method_11_code
def yX0_takeAlleles : MethodName := ⟨RX0, "takeAlleles", "(LVariantKit$Variant;LVariantKit$Reference;)Z"⟩
abbrev cX0_takeBases : ByteArray := prog_2_method_12_code
def yX0_takeBases : MethodName := ⟨RX0, "takeBases", "(I)I"⟩
abbrev cX0_takeGenotype : ByteArray := prog_2_method_13_code
def yX0_takeGenotype : MethodName := ⟨RX0, "takeGenotype", "(LVariantKit$Variant;I)Z"⟩
abbrev cX0_takeNumbers : ByteArray := prog_2_method_14_code
def yX0_takeNumbers : MethodName := ⟨RX0, "takeNumbers", "([IIII)Z"⟩
def RX1 : String := "VariantKit$Joiner"
def TX1 : u_T := fun k => match k with
  | 0 => ("VariantKit$Joiner", "first", "LVariantKit$Variant;", true)
  | 1 => ("VariantKit$Joiner", "second", "LVariantKit$Variant;", true)
  | 2 => ("VariantKit$Joiner", "joined", "LVariantKit$Variant;", true)
  | _ => ("VariantKit$Joiner", "numbers", "[I", true)
def tyX1 : Nat → FieldType := fun k => match k with
  | 0 => .object "VariantKit$Variant"
  | 1 => .object "VariantKit$Variant"
  | 2 => .object "VariantKit$Variant"
  | _ => .array .int
abbrev wsX10 : List Cond := u_ws RX1 TX1 4
theorem nmX1 : ∀ a, a < 4 → ∀ b, b < 4 → a ≠ b → (TX1 a).2.1 ≠ (TX1 b).2.1 := by decide +kernel
theorem tyX1_ok : ∀ k, k < 4 → parseFieldDescriptor (TX1 k).2.2.1 = some (tyX1 k) := by decide +kernel
abbrev cX1_init : ByteArray := prog_3_method_1_code
def yX1_init : MethodName := ⟨RX1, "<init>", "()V"⟩
abbrev cX1_unite : ByteArray := prog_3_method_2_code
def yX1_unite : MethodName := ⟨RX1, "unite", "(LVariantKit$Variant;LVariantKit$Variant;)Z"⟩
abbrev cX1_uniteAlleles : ByteArray := prog_3_method_3_code
def yX1_uniteAlleles : MethodName := ⟨RX1, "uniteAlleles", "()Z"⟩
abbrev cX1_uniteDepths : ByteArray := prog_3_method_4_code
def yX1_uniteDepths : MethodName := ⟨RX1, "uniteDepths", "()V"⟩
abbrev cX1_uniteGenotypes : ByteArray := prog_3_method_5_code
def yX1_uniteGenotypes : MethodName := ⟨RX1, "uniteGenotypes", "()V"⟩
abbrev cX1_unitedAllele : ByteArray := prog_3_method_6_code
def yX1_unitedAllele : MethodName := ⟨RX1, "unitedAllele", "(II)I"⟩
abbrev cX1_uniteLikelihoods : ByteArray := prog_3_method_7_code
def yX1_uniteLikelihoods : MethodName := ⟨RX1, "uniteLikelihoods", "()V"⟩
def RX2 : String := "VariantKit$RecordList"
def TX2 : u_T := fun k => match k with
  | 0 => ("VariantKit$RecordList", "rows", "[LVariantKit$Variant;", true)
  | _ => ("VariantKit$RecordList", "size", "I", false)
def tyX2 : Nat → FieldType := fun k => match k with
  | 0 => .array (.object "VariantKit$Variant")
  | _ => .int
abbrev wsX20 : List Cond := u_ws RX2 TX2 2
theorem nmX2 : ∀ a, a < 2 → ∀ b, b < 2 → a ≠ b → (TX2 a).2.1 ≠ (TX2 b).2.1 := by decide +kernel
theorem tyX2_ok : ∀ k, k < 2 → parseFieldDescriptor (TX2 k).2.2.1 = some (tyX2 k) := by decide +kernel
abbrev cX2_init : ByteArray := prog_4_method_1_code
def yX2_init : MethodName := ⟨RX2, "<init>", "()V"⟩
abbrev cX2_isFull : ByteArray := prog_4_method_2_code
def yX2_isFull : MethodName := ⟨RX2, "isFull", "()Z"⟩
abbrev cX2_insert : ByteArray := prog_4_method_3_code
def yX2_insert : MethodName := ⟨RX2, "insert", "(LVariantKit$Variant;)I"⟩
abbrev cX2_open : ByteArray := prog_4_method_4_code
def yX2_open : MethodName := ⟨RX2, "open", "(I)LVariantKit$Variant;"⟩
abbrev cX2_close : ByteArray := prog_4_method_5_code
def yX2_close : MethodName := ⟨RX2, "close", "(I)V"⟩
def RX3 : String := "VariantKit$Reference"
def TX3 : u_T := fun k => match k with
  | 0 => ("VariantKit$Reference", "bases", "[I", true)
  | _ => ("VariantKit$Reference", "length", "I", false)
def tyX3 : Nat → FieldType := fun k => match k with
  | 0 => .array .int
  | _ => .int
abbrev wsX30 : List Cond := u_ws RX3 TX3 2
theorem nmX3 : ∀ a, a < 2 → ∀ b, b < 2 → a ≠ b → (TX3 a).2.1 ≠ (TX3 b).2.1 := by decide +kernel
theorem tyX3_ok : ∀ k, k < 2 → parseFieldDescriptor (TX3 k).2.2.1 = some (tyX3 k) := by decide +kernel
abbrev cX3_init : ByteArray := prog_5_method_1_code
def yX3_init : MethodName := ⟨RX3, "<init>", "()V"⟩
abbrev cX3_append : ByteArray := prog_5_method_2_code
def yX3_append : MethodName := ⟨RX3, "append", "(JI)V"⟩
abbrev cX3_covers : ByteArray := prog_5_method_3_code
def yX3_covers : MethodName := ⟨RX3, "covers", "(II)Z"⟩
abbrev cX3_packed : ByteArray := prog_5_method_4_code
def yX3_packed : MethodName := ⟨RX3, "packed", "(II)I"⟩
def RX4 : String := "VariantKit$Variant"
def TX4 : u_T := fun k => match k with
  | 0 => ("VariantKit$Variant", "place", "I", false)
  | 1 => ("VariantKit$Variant", "quality", "I", false)
  | 2 => ("VariantKit$Variant", "alleles", "I", false)
  | 3 => ("VariantKit$Variant", "packed", "[I", true)
  | 4 => ("VariantKit$Variant", "lengths", "[I", true)
  | 5 => ("VariantKit$Variant", "depths", "[I", true)
  | 6 => ("VariantKit$Variant", "genotypes", "[I", true)
  | 7 => ("VariantKit$Variant", "phased", "[Z", true)
  | _ => ("VariantKit$Variant", "likelihoods", "[I", true)
def tyX4 : Nat → FieldType := fun k => match k with
  | 0 => .int
  | 1 => .int
  | 2 => .int
  | 3 => .array .int
  | 4 => .array .int
  | 5 => .array .int
  | 6 => .array .int
  | 7 => .array .boolean
  | _ => .array .int
abbrev wsX40 : List Cond := u_ws RX4 TX4 9
theorem nmX4 : ∀ a, a < 9 → ∀ b, b < 9 → a ≠ b → (TX4 a).2.1 ≠ (TX4 b).2.1 := by decide +kernel
theorem tyX4_ok : ∀ k, k < 9 → parseFieldDescriptor (TX4 k).2.2.1 = some (tyX4 k) := by decide +kernel
abbrev cX4_init : ByteArray := prog_6_method_1_code
def yX4_init : MethodName := ⟨RX4, "<init>", "()V"⟩
abbrev cX4_clear : ByteArray := prog_6_method_2_code
def yX4_clear : MethodName := ⟨RX4, "clear", "()V"⟩
abbrev cX4_fillLikelihoods : ByteArray := prog_6_method_3_code
def yX4_fillLikelihoods : MethodName := ⟨RX4, "fillLikelihoods", "(I)V"⟩
abbrev cX4_copy : ByteArray := prog_6_method_4_code
def yX4_copy : MethodName := ⟨RX4, "copy", "(LVariantKit$Variant;)V"⟩
abbrev cX4_appendAllele : ByteArray := prog_6_method_5_code
def yX4_appendAllele : MethodName := ⟨RX4, "appendAllele", "(II)V"⟩
abbrev cX4_find : ByteArray := prog_6_method_6_code
def yX4_find : MethodName := ⟨RX4, "find", "(II)I"⟩
abbrev cX4_hasAllele : ByteArray := prog_6_method_7_code
def yX4_hasAllele : MethodName := ⟨RX4, "hasAllele", "(I)Z"⟩
abbrev cX4_allowsInGenotype : ByteArray := prog_6_method_8_code
def yX4_allowsInGenotype : MethodName := ⟨RX4, "allowsInGenotype", "(I)Z"⟩
abbrev cX4_pairs : ByteArray := prog_6_method_9_code
def yX4_pairs : MethodName := ⟨RX4, "pairs", "()I"⟩
abbrev cX4_lastPlace : ByteArray := prog_6_method_10_code
def yX4_lastPlace : MethodName := ⟨RX4, "lastPlace", "()I"⟩
abbrev cX4_spansOneOf : ByteArray := prog_6_method_11_code
def yX4_spansOneOf : MethodName := ⟨RX4, "spansOneOf", "(II)Z"⟩
abbrev cX4_bin : ByteArray := prog_6_method_12_code
def yX4_bin : MethodName := ⟨RX4, "bin", "()I"⟩
abbrev cX4_trim : ByteArray := prog_6_method_13_code
def yX4_trim : MethodName := ⟨RX4, "trim", "(LVariantKit$Reference;)V"⟩
abbrev cX4_trimEnd : ByteArray := prog_6_method_14_code
def yX4_trimEnd : MethodName := ⟨RX4, "trimEnd", "(LVariantKit$Reference;)Z"⟩
abbrev cX4_trimFront : ByteArray := prog_6_method_15_code
def yX4_trimFront : MethodName := ⟨RX4, "trimFront", "()Z"⟩
abbrev cX4_putInFront : ByteArray := prog_6_method_16_code
def yX4_putInFront : MethodName := ⟨RX4, "putInFront", "(I)V"⟩
abbrev cX4_shortest : ByteArray := prog_6_method_17_code
def yX4_shortest : MethodName := ⟨RX4, "shortest", "()I"⟩
abbrev cX4_isLastBaseShared : ByteArray := prog_6_method_18_code
def yX4_isLastBaseShared : MethodName := ⟨RX4, "isLastBaseShared", "()Z"⟩
abbrev cX4_isFirstBaseShared : ByteArray := prog_6_method_19_code
def yX4_isFirstBaseShared : MethodName := ⟨RX4, "isFirstBaseShared", "()Z"⟩
abbrev cX4_becomePart : ByteArray := prog_6_method_20_code
def yX4_becomePart : MethodName := ⟨RX4, "becomePart", "(LVariantKit$Variant;I)V"⟩
abbrev cX4_appendAlleleOf : ByteArray := prog_6_method_21_code
def yX4_appendAlleleOf : MethodName := ⟨RX4, "appendAlleleOf", "(LVariantKit$Variant;I)V"⟩
abbrev cX4_lengthenLike : ByteArray := prog_6_method_22_code
def yX4_lengthenLike : MethodName := ⟨RX4, "lengthenLike", "(LVariantKit$Variant;)V"⟩
abbrev cX4_hasTooLongAllele : ByteArray := prog_6_method_23_code
def yX4_hasTooLongAllele : MethodName := ⟨RX4, "hasTooLongAllele", "()Z"⟩
def RX5 : String := "VariantKit"
def TX5 : u_T := fun k => match k with
  | 0 => ("VariantKit", "reference", "LVariantKit$Reference;", true)
  | 1 => ("VariantKit", "list", "LVariantKit$RecordList;", true)
  | 2 => ("VariantKit", "draft", "LVariantKit$Variant;", true)
  | 3 => ("VariantKit", "drafted", "Z", false)
  | 4 => ("VariantKit", "scratch", "LVariantKit$Variant;", true)
  | 5 => ("VariantKit", "joiner", "LVariantKit$Joiner;", true)
  | 6 => ("VariantKit", "typed", "LVariantKit$ByteRow;", true)
  | _ => ("VariantKit", "output", "LVariantKit$ByteRow;", true)
def tyX5 : Nat → FieldType := fun k => match k with
  | 0 => .object "VariantKit$Reference"
  | 1 => .object "VariantKit$RecordList"
  | 2 => .object "VariantKit$Variant"
  | 3 => .boolean
  | 4 => .object "VariantKit$Variant"
  | 5 => .object "VariantKit$Joiner"
  | 6 => .object "VariantKit$ByteRow"
  | _ => .object "VariantKit$ByteRow"
abbrev wsX50 : List Cond := u_ws RX5 TX5 8
theorem nmX5 : ∀ a, a < 8 → ∀ b, b < 8 → a ≠ b → (TX5 a).2.1 ≠ (TX5 b).2.1 := by decide +kernel
theorem tyX5_ok : ∀ k, k < 8 → parseFieldDescriptor (TX5 k).2.2.1 = some (tyX5 k) := by decide +kernel
abbrev cX5_init : ByteArray := prog_1_method_1_code
def yX5_init : MethodName := ⟨RX5, "<init>", "()V"⟩
abbrev cX5_reference : ByteArray := prog_1_method_2_code
def yX5_reference : MethodName := ⟨RX5, "reference", "(JI)I"⟩
abbrev cX5_draft : ByteArray := prog_1_method_3_code
def yX5_draft : MethodName := ⟨RX5, "draft", "(II)V"⟩
abbrev cX5_allele : ByteArray := prog_1_method_4_code
def yX5_allele : MethodName := ⟨RX5, "allele", "(JI)I"⟩
abbrev cX5_depth : ByteArray := prog_1_method_5_code
def yX5_depth : MethodName := ⟨RX5, "depth", "(III)V"⟩
abbrev cX5_genotype : ByteArray := prog_1_method_6_code
def yX5_genotype : MethodName := ⟨RX5, "genotype", "(IIIZ)V"⟩
abbrev cX5_likelihood : ByteArray := prog_1_method_7_code
def yX5_likelihood : MethodName := ⟨RX5, "likelihood", "(III)V"⟩
abbrev cX5_add : ByteArray := prog_1_method_8_code
def yX5_add : MethodName := ⟨RX5, "add", "()I"⟩
abbrev cX5_remove : ByteArray := prog_1_method_9_code
def yX5_remove : MethodName := ⟨RX5, "remove", "(I)V"⟩
abbrev cX5_normalise : ByteArray := prog_1_method_10_code
def yX5_normalise : MethodName := ⟨RX5, "normalise", "(I)I"⟩
abbrev cX5_split : ByteArray := prog_1_method_11_code
def yX5_split : MethodName := ⟨RX5, "split", "(I)I"⟩
abbrev cX5_join : ByteArray := prog_1_method_12_code
def yX5_join : MethodName := ⟨RX5, "join", "(I)V"⟩
abbrev cX5_written : ByteArray := prog_1_method_13_code
def yX5_written : MethodName := ⟨RX5, "written", "(II)I"⟩
abbrev cX5_type : ByteArray := prog_1_method_14_code
def yX5_type : MethodName := ⟨RX5, "type", "(JI)V"⟩
abbrev cX5_read : ByteArray := prog_1_method_15_code
def yX5_read : MethodName := ⟨RX5, "read", "()I"⟩
abbrev cX5_records : ByteArray := prog_1_method_16_code
def yX5_records : MethodName := ⟨RX5, "records", "()I"⟩
abbrev cX5_about : ByteArray := prog_1_method_17_code
def yX5_about : MethodName := ⟨RX5, "about", "(II)I"⟩
abbrev cX5_base : ByteArray := prog_1_method_18_code
def yX5_base : MethodName := ⟨RX5, "base", "(III)I"⟩
abbrev cX5_found : ByteArray := prog_1_method_19_code
def yX5_found : MethodName := ⟨RX5, "found", "(II)I"⟩
abbrev cX5_mean : ByteArray := prog_1_method_20_code
def yX5_mean : MethodName := ⟨RX5, "mean", "(II)F"⟩
abbrev cX5_requireRecord : ByteArray := prog_1_method_21_code
def yX5_requireRecord : MethodName := ⟨RX5, "requireRecord", "(I)V"⟩
abbrev cX5_requireRegion : ByteArray := prog_1_method_22_code
def yX5_requireRegion : MethodName := ⟨RX5, "requireRegion", "(II)V"⟩
abbrev cX5_takeTyped : ByteArray := prog_1_method_23_code
def yX5_takeTyped : MethodName := ⟨RX5, "takeTyped", "()Z"⟩
abbrev cX5_isWithin : ByteArray := prog_1_method_24_code
def yX5_isWithin : MethodName := ⟨RX5, "isWithin", "(II)Z"⟩
abbrev cX5_isSample : ByteArray := prog_1_method_25_code
def yX5_isSample : MethodName := ⟨RX5, "isSample", "(I)Z"⟩
abbrev cX5_lowBases : ByteArray := prog_1_method_26_code
def yX5_lowBases : MethodName := ⟨RX5, "lowBases", "(I)I"⟩
abbrev cX5_baseOf : ByteArray := prog_1_method_27_code
def yX5_baseOf : MethodName := ⟨RX5, "baseOf", "(JII)I"⟩
abbrev cX5_pairNumber : ByteArray := prog_1_method_28_code
def yX5_pairNumber : MethodName := ⟨RX5, "pairNumber", "(II)I"⟩
def RX6 : String := "VariantKitModel"
def TX6 : u_T := fun k => match k with
  | 0 => ("VariantKitModel", "thrown", "I", false)
  | 1 => ("VariantKitModel", "reference", "[I", true)
  | 2 => ("VariantKitModel", "places", "I", false)
  | 3 => ("VariantKitModel", "drafted", "Z", false)
  | 4 => ("VariantKitModel", "records", "I", false)
  | 5 => ("VariantKitModel", "rows", "[I", true)
  | 6 => ("VariantKitModel", "out", "[I", true)
  | 7 => ("VariantKitModel", "outSize", "I", false)
  | 8 => ("VariantKitModel", "in", "[I", true)
  | 9 => ("VariantKitModel", "inSize", "I", false)
  | _ => ("VariantKitModel", "of", "[I", true)
def tyX6 : Nat → FieldType := fun k => match k with
  | 0 => .int
  | 1 => .array .int
  | 2 => .int
  | 3 => .boolean
  | 4 => .int
  | 5 => .array .int
  | 6 => .array .int
  | 7 => .int
  | 8 => .array .int
  | 9 => .int
  | _ => .array .int
abbrev wsX60 : List Cond := u_ws RX6 TX6 11
theorem nmX6 : ∀ a, a < 11 → ∀ b, b < 11 → a ≠ b → (TX6 a).2.1 ≠ (TX6 b).2.1 := by decide +kernel
theorem tyX6_ok : ∀ k, k < 11 → parseFieldDescriptor (TX6 k).2.2.1 = some (tyX6 k) := by decide +kernel
abbrev cX6_init : ByteArray := prog_8_method_1_code
def yX6_init : MethodName := ⟨RX6, "<init>", "()V"⟩
abbrev cX6_thrown : ByteArray := prog_8_method_2_code
def yX6_thrown : MethodName := ⟨RX6, "thrown", "()I"⟩
abbrev cX6_throwing : ByteArray := prog_8_method_3_code
def yX6_throwing : MethodName := ⟨RX6, "throwing", "(ZZ)Z"⟩
abbrev cX6_out : ByteArray := prog_8_method_4_code
def yX6_out : MethodName := ⟨RX6, "out", "(II)Z"⟩
abbrev cX6_get : ByteArray := prog_8_method_5_code
def yX6_get : MethodName := ⟨RX6, "get", "(II)I"⟩
abbrev cX6_put : ByteArray := prog_8_method_6_code
def yX6_put : MethodName := ⟨RX6, "put", "(III)V"⟩
abbrev cX6_copy : ByteArray := prog_8_method_7_code
def yX6_copy : MethodName := ⟨RX6, "copy", "(II)V"⟩
abbrev cX6_empty : ByteArray := prog_8_method_8_code
def yX6_empty : MethodName := ⟨RX6, "empty", "(II)V"⟩
abbrev cX6_addAllele : ByteArray := prog_8_method_9_code
def yX6_addAllele : MethodName := ⟨RX6, "addAllele", "(III)V"⟩
abbrev cX6_findAllele : ByteArray := prog_8_method_10_code
def yX6_findAllele : MethodName := ⟨RX6, "findAllele", "(III)I"⟩
abbrev cX6_referenceFrom : ByteArray := prog_8_method_11_code
def yX6_referenceFrom : MethodName := ⟨RX6, "referenceFrom", "(II)I"⟩
abbrev cX6_pair : ByteArray := prog_8_method_12_code
def yX6_pair : MethodName := ⟨RX6, "pair", "(II)I"⟩
abbrev cX6_pairs : ByteArray := prog_8_method_13_code
def yX6_pairs : MethodName := ⟨RX6, "pairs", "(I)I"⟩
abbrev cX6_reference : ByteArray := prog_8_method_14_code
def yX6_reference : MethodName := ⟨RX6, "reference", "(JI)I"⟩
abbrev cX6_draft : ByteArray := prog_8_method_15_code
def yX6_draft : MethodName := ⟨RX6, "draft", "(II)V"⟩
abbrev cX6_allele : ByteArray := prog_8_method_16_code
def yX6_allele : MethodName := ⟨RX6, "allele", "(JI)I"⟩
abbrev cX6_depth : ByteArray := prog_8_method_17_code
def yX6_depth : MethodName := ⟨RX6, "depth", "(III)V"⟩
abbrev cX6_genotype : ByteArray := prog_8_method_18_code
def yX6_genotype : MethodName := ⟨RX6, "genotype", "(IIIZ)V"⟩
abbrev cX6_likelihood : ByteArray := prog_8_method_19_code
def yX6_likelihood : MethodName := ⟨RX6, "likelihood", "(III)V"⟩
abbrev cX6_add : ByteArray := prog_8_method_20_code
def yX6_add : MethodName := ⟨RX6, "add", "()I"⟩
abbrev cX6_enter : ByteArray := prog_8_method_21_code
def yX6_enter : MethodName := ⟨RX6, "enter", "(I)I"⟩
abbrev cX6_open : ByteArray := prog_8_method_22_code
def yX6_open : MethodName := ⟨RX6, "open", "(I)V"⟩
abbrev cX6_close : ByteArray := prog_8_method_23_code
def yX6_close : MethodName := ⟨RX6, "close", "(I)V"⟩
abbrev cX6_remove : ByteArray := prog_8_method_24_code
def yX6_remove : MethodName := ⟨RX6, "remove", "(I)V"⟩
abbrev cX6_shortest : ByteArray := prog_8_method_25_code
def yX6_shortest : MethodName := ⟨RX6, "shortest", "(I)I"⟩
abbrev cX6_same : ByteArray := prog_8_method_26_code
def yX6_same : MethodName := ⟨RX6, "same", "(IZ)Z"⟩
abbrev cX6_edge : ByteArray := prog_8_method_27_code
def yX6_edge : MethodName := ⟨RX6, "edge", "(IIZ)I"⟩
abbrev cX6_step : ByteArray := prog_8_method_28_code
def yX6_step : MethodName := ⟨RX6, "step", "(I)Z"⟩
abbrev cX6_normalise : ByteArray := prog_8_method_29_code
def yX6_normalise : MethodName := ⟨RX6, "normalise", "(I)I"⟩
abbrev cX6_part : ByteArray := prog_8_method_30_code
def yX6_part : MethodName := ⟨RX6, "part", "(II)V"⟩
abbrev cX6_split : ByteArray := prog_8_method_31_code
def yX6_split : MethodName := ⟨RX6, "split", "(I)I"⟩
abbrev cX6_gather : ByteArray := prog_8_method_32_code
def yX6_gather : MethodName := ⟨RX6, "gather", "(II)Z"⟩
abbrev cX6_back : ByteArray := prog_8_method_33_code
def yX6_back : MethodName := ⟨RX6, "back", "(III)I"⟩
abbrev cX6_likely : ByteArray := prog_8_method_34_code
def yX6_likely : MethodName := ⟨RX6, "likely", "(IIIII)I"⟩
abbrev cX6_joinSample : ByteArray := prog_8_method_35_code
def yX6_joinSample : MethodName := ⟨RX6, "joinSample", "(III)V"⟩
abbrev cX6_join : ByteArray := prog_8_method_36_code
def yX6_join : MethodName := ⟨RX6, "join", "(I)V"⟩
abbrev cX6_write : ByteArray := prog_8_method_37_code
def yX6_write : MethodName := ⟨RX6, "write", "(I)V"⟩
abbrev cX6_writeRow : ByteArray := prog_8_method_38_code
def yX6_writeRow : MethodName := ⟨RX6, "writeRow", "(III)V"⟩
abbrev cX6_letter : ByteArray := prog_8_method_39_code
def yX6_letter : MethodName := ⟨RX6, "letter", "(I)I"⟩
abbrev cX6_writeOut : ByteArray := prog_8_method_40_code
def yX6_writeOut : MethodName := ⟨RX6, "writeOut", "(I)V"⟩
abbrev cX6_written : ByteArray := prog_8_method_41_code
def yX6_written : MethodName := ⟨RX6, "written", "(II)I"⟩
abbrev cX6_type : ByteArray := prog_8_method_42_code
def yX6_type : MethodName := ⟨RX6, "type", "(JI)V"⟩
abbrev cX6_byteAt : ByteArray := prog_8_method_43_code
def yX6_byteAt : MethodName := ⟨RX6, "byteAt", "(I)I"⟩
abbrev cX6_twoAt : ByteArray := prog_8_method_44_code
def yX6_twoAt : MethodName := ⟨RX6, "twoAt", "(I)I"⟩
abbrev cX6_readRow : ByteArray := prog_8_method_45_code
def yX6_readRow : MethodName := ⟨RX6, "readRow", "(III)I"⟩
abbrev cX6_baseOf : ByteArray := prog_8_method_46_code
def yX6_baseOf : MethodName := ⟨RX6, "baseOf", "(I)I"⟩
abbrev cX6_taken : ByteArray := prog_8_method_47_code
def yX6_taken : MethodName := ⟨RX6, "taken", "()Z"⟩
abbrev cX6_inRange : ByteArray := prog_8_method_48_code
def yX6_inRange : MethodName := ⟨RX6, "inRange", "(I)Z"⟩
abbrev cX6_read : ByteArray := prog_8_method_49_code
def yX6_read : MethodName := ⟨RX6, "read", "()I"⟩
abbrev cX6_records : ByteArray := prog_8_method_50_code
def yX6_records : MethodName := ⟨RX6, "records", "()I"⟩
abbrev cX6_binOf : ByteArray := prog_8_method_51_code
def yX6_binOf : MethodName := ⟨RX6, "binOf", "(I)I"⟩
abbrev cX6_about : ByteArray := prog_8_method_52_code
def yX6_about : MethodName := ⟨RX6, "about", "(II)I"⟩
abbrev cX6_base : ByteArray := prog_8_method_53_code
def yX6_base : MethodName := ⟨RX6, "base", "(III)I"⟩
abbrev cX6_isBad : ByteArray := prog_8_method_54_code
def yX6_isBad : MethodName := ⟨RX6, "isBad", "(II)Z"⟩
abbrev cX6_spans : ByteArray := prog_8_method_55_code
def yX6_spans : MethodName := ⟨RX6, "spans", "(III)Z"⟩
abbrev cX6_found : ByteArray := prog_8_method_56_code
def yX6_found : MethodName := ⟨RX6, "found", "(II)I"⟩
abbrev cX6_mean : ByteArray := prog_8_method_57_code
def yX6_mean : MethodName := ⟨RX6, "mean", "(II)F"⟩
def RJ9 : String := "java/lang/Math"
def TJ9 : u_T := fun k => match k with
  | _ => ("", "", "", false)
def tyJ9 : Nat → FieldType := fun k => match k with
  | _ => .int
abbrev wsJ90 : List Cond := u_ws RJ9 TJ9 0
theorem nmJ9 : ∀ a, a < 0 → ∀ b, b < 0 → a ≠ b → (TJ9 a).2.1 ≠ (TJ9 b).2.1 := by decide +kernel
theorem tyJ9_ok : ∀ k, k < 0 → parseFieldDescriptor (TJ9 k).2.2.1 = some (tyJ9 k) := by decide +kernel
abbrev cJ9_max_7cf53 : ByteArray := prog_13_method_65_code
def yJ9_max_7cf53 : MethodName := ⟨RJ9, "max", "(II)I"⟩
abbrev cJ9_min_7cf53 : ByteArray := prog_13_method_69_code
def yJ9_min_7cf53 : MethodName := ⟨RJ9, "min", "(II)I"⟩
def RJ0 : String := "java/lang/String"
def TJ0 : u_T := fun k => match k with
  | _ => ("", "", "", false)
def tyJ0 : Nat → FieldType := fun k => match k with
  | _ => .int
abbrev wsJ00 : List Cond := u_ws RJ0 TJ0 0
theorem nmJ0 : ∀ a, a < 0 → ∀ b, b < 0 → a ≠ b → (TJ0 a).2.1 ≠ (TJ0 b).2.1 := by decide +kernel
theorem tyJ0_ok : ∀ k, k < 0 → parseFieldDescriptor (TJ0 k).2.2.1 = some (tyJ0 k) := by decide +kernel
def RJ10 : String := "java/lang/System"
def TJ10 : u_T := fun k => match k with
  | _ => ("", "", "", false)
def tyJ10 : Nat → FieldType := fun k => match k with
  | _ => .int
abbrev wsJ100 : List Cond := u_ws RJ10 TJ10 0
theorem nmJ10 : ∀ a, a < 0 → ∀ b, b < 0 → a ≠ b → (TJ10 a).2.1 ≠ (TJ10 b).2.1 := by decide +kernel
theorem tyJ10_ok : ∀ k, k < 0 → parseFieldDescriptor (TJ10 k).2.2.1 = some (tyJ10 k) := by decide +kernel
def RL : String := "VariantKitLaw"
abbrev cL_reference : ByteArray := method_3_code
def yL_reference : MethodName := ⟨RL, "reference", "(LVariantKit;JI[J)I"⟩
abbrev cL_draft : ByteArray := method_4_code
def yL_draft : MethodName := ⟨RL, "draft", "(LVariantKit;II)I"⟩
abbrev cL_allele : ByteArray := method_5_code
def yL_allele : MethodName := ⟨RL, "allele", "(LVariantKit;JI[J)I"⟩
abbrev cL_depth : ByteArray := method_6_code
def yL_depth : MethodName := ⟨RL, "depth", "(LVariantKit;III)I"⟩
abbrev cL_genotype : ByteArray := method_7_code
def yL_genotype : MethodName := ⟨RL, "genotype", "(LVariantKit;IIIZ)I"⟩
abbrev cL_likelihood : ByteArray := method_8_code
def yL_likelihood : MethodName := ⟨RL, "likelihood", "(LVariantKit;III)I"⟩
abbrev cL_add : ByteArray := method_9_code
def yL_add : MethodName := ⟨RL, "add", "(LVariantKit;[J)I"⟩
abbrev cL_remove : ByteArray := method_10_code
def yL_remove : MethodName := ⟨RL, "remove", "(LVariantKit;I)I"⟩
abbrev cL_normalise : ByteArray := method_11_code
def yL_normalise : MethodName := ⟨RL, "normalise", "(LVariantKit;I[J)I"⟩
abbrev cL_split : ByteArray := method_12_code
def yL_split : MethodName := ⟨RL, "split", "(LVariantKit;I[J)I"⟩
abbrev cL_join : ByteArray := method_13_code
def yL_join : MethodName := ⟨RL, "join", "(LVariantKit;I)I"⟩
abbrev cL_written : ByteArray := method_14_code
def yL_written : MethodName := ⟨RL, "written", "(LVariantKit;II[J)I"⟩
abbrev cL_type : ByteArray := method_15_code
def yL_type : MethodName := ⟨RL, "type", "(LVariantKit;JI)I"⟩
abbrev cL_read : ByteArray := method_16_code
def yL_read : MethodName := ⟨RL, "read", "(LVariantKit;[J)I"⟩
abbrev cL_about : ByteArray := method_17_code
def yL_about : MethodName := ⟨RL, "about", "(LVariantKit;II[J)I"⟩
abbrev cL_base : ByteArray := method_18_code
def yL_base : MethodName := ⟨RL, "base", "(LVariantKit;III[J)I"⟩
abbrev cL_found : ByteArray := method_19_code
def yL_found : MethodName := ⟨RL, "found", "(LVariantKit;II[J)I"⟩
abbrev cL_mean : ByteArray := method_20_code
def yL_mean : MethodName := ⟨RL, "mean", "(LVariantKit;II[D)I"⟩
abbrev cL_law : ByteArray := code
def yL_law : MethodName := ⟨RL, "law", "([I)Z"⟩
abbrev vwCl : List vw_C := [(RX0, TX0, 3), (RX1, TX1, 4), (RX2, TX2, 2), (RX3, TX3, 2), (RX4, TX4, 9), (RX5, TX5, 8), (RX6, TX6, 11)]
end
section
theorem dX4_init_0 : decode cX4_init 0 = .ok (.aload_n 0, 1) := by decide +kernel
theorem dX4_init_1 : decode cX4_init 1 = .ok (.invokespecial 3, 3) := by decide +kernel
theorem dX4_init_4 : decode cX4_init 4 = .ok (.aload_n 0, 1) := by decide +kernel
theorem dX4_init_5 : decode cX4_init 5 = .ok (.iconst 4, 1) := by decide +kernel
theorem dX4_init_6 : decode cX4_init 6 = .ok (.newarray .int, 2) := by decide +kernel
theorem dX4_init_8 : decode cX4_init 8 = .ok (.putfield 9, 3) := by decide +kernel
theorem dX4_init_11 : decode cX4_init 11 = .ok (.aload_n 0, 1) := by decide +kernel
theorem dX4_init_12 : decode cX4_init 12 = .ok (.iconst 4, 1) := by decide +kernel
theorem dX4_init_13 : decode cX4_init 13 = .ok (.newarray .int, 2) := by decide +kernel
theorem dX4_init_15 : decode cX4_init 15 = .ok (.putfield 15, 3) := by decide +kernel
theorem dX4_init_18 : decode cX4_init 18 = .ok (.aload_n 0, 1) := by decide +kernel
theorem dX4_init_19 : decode cX4_init 19 = .ok (.iconst 4, 1) := by decide +kernel
theorem dX4_init_20 : decode cX4_init 20 = .ok (.newarray .int, 2) := by decide +kernel
theorem dX4_init_22 : decode cX4_init 22 = .ok (.putfield 18, 3) := by decide +kernel
theorem dX4_init_25 : decode cX4_init 25 = .ok (.aload_n 0, 1) := by decide +kernel
theorem dX4_init_26 : decode cX4_init 26 = .ok (.iconst 4, 1) := by decide +kernel
theorem dX4_init_27 : decode cX4_init 27 = .ok (.newarray .int, 2) := by decide +kernel
theorem dX4_init_29 : decode cX4_init 29 = .ok (.putfield 21, 3) := by decide +kernel
theorem dX4_init_32 : decode cX4_init 32 = .ok (.aload_n 0, 1) := by decide +kernel
theorem dX4_init_33 : decode cX4_init 33 = .ok (.iconst 2, 1) := by decide +kernel
theorem dX4_init_34 : decode cX4_init 34 = .ok (.newarray .boolean, 2) := by decide +kernel
theorem dX4_init_36 : decode cX4_init 36 = .ok (.putfield 24, 3) := by decide +kernel
theorem dX4_init_39 : decode cX4_init 39 = .ok (.aload_n 0, 1) := by decide +kernel
theorem dX4_init_40 : decode cX4_init 40 = .ok (.bipush 20, 2) := by decide +kernel
theorem dX4_init_42 : decode cX4_init 42 = .ok (.newarray .int, 2) := by decide +kernel
theorem dX4_init_44 : decode cX4_init 44 = .ok (.putfield 28, 3) := by decide +kernel
theorem dX4_init_47 : decode cX4_init 47 = .ok (.return_, 1) := by decide +kernel
theorem dX4_clear_0 : decode cX4_clear 0 = .ok (.aload_n 0, 1) := by decide +kernel
theorem dX4_clear_1 : decode cX4_clear 1 = .ok (.iconst 0, 1) := by decide +kernel
theorem dX4_clear_2 : decode cX4_clear 2 = .ok (.putfield 31, 3) := by decide +kernel
theorem dX4_clear_5 : decode cX4_clear 5 = .ok (.aload_n 0, 1) := by decide +kernel
theorem dX4_clear_6 : decode cX4_clear 6 = .ok (.iconst 0, 1) := by decide +kernel
theorem dX4_clear_7 : decode cX4_clear 7 = .ok (.putfield 35, 3) := by decide +kernel
theorem dX4_clear_10 : decode cX4_clear 10 = .ok (.aload_n 0, 1) := by decide +kernel
theorem dX4_clear_11 : decode cX4_clear 11 = .ok (.iconst 0, 1) := by decide +kernel
theorem dX4_clear_12 : decode cX4_clear 12 = .ok (.putfield 38, 3) := by decide +kernel
theorem dX4_clear_15 : decode cX4_clear 15 = .ok (.iconst 0, 1) := by decide +kernel
theorem dX4_clear_16 : decode cX4_clear 16 = .ok (.istore_n 1, 1) := by decide +kernel
theorem dX4_clear_17 : decode cX4_clear 17 = .ok (.iload_n 1, 1) := by decide +kernel
theorem dX4_clear_18 : decode cX4_clear 18 = .ok (.iconst 4, 1) := by decide +kernel
theorem dX4_clear_19 : decode cX4_clear 19 = .ok (.if_icmp .ge 16, 3) := by decide +kernel
theorem dX4_clear_22 : decode cX4_clear 22 = .ok (.aload_n 0, 1) := by decide +kernel
theorem dX4_clear_23 : decode cX4_clear 23 = .ok (.getfield 21, 3) := by decide +kernel
theorem dX4_clear_26 : decode cX4_clear 26 = .ok (.iload_n 1, 1) := by decide +kernel
theorem dX4_clear_27 : decode cX4_clear 27 = .ok (.iconst (-1), 1) := by decide +kernel
theorem dX4_clear_28 : decode cX4_clear 28 = .ok (.iastore, 1) := by decide +kernel
theorem dX4_clear_29 : decode cX4_clear 29 = .ok (.iinc 1 1, 3) := by decide +kernel
theorem dX4_clear_32 : decode cX4_clear 32 = .ok (.goto (-15), 3) := by decide +kernel
theorem dX4_clear_35 : decode cX4_clear 35 = .ok (.iconst 0, 1) := by decide +kernel
theorem dX4_clear_36 : decode cX4_clear 36 = .ok (.istore_n 1, 1) := by decide +kernel
theorem dX4_clear_37 : decode cX4_clear 37 = .ok (.iload_n 1, 1) := by decide +kernel
theorem dX4_clear_38 : decode cX4_clear 38 = .ok (.iconst 2, 1) := by decide +kernel
theorem dX4_clear_39 : decode cX4_clear 39 = .ok (.if_icmp .ge 16, 3) := by decide +kernel
theorem dX4_clear_42 : decode cX4_clear 42 = .ok (.aload_n 0, 1) := by decide +kernel
theorem dX4_clear_43 : decode cX4_clear 43 = .ok (.getfield 24, 3) := by decide +kernel
theorem dX4_clear_46 : decode cX4_clear 46 = .ok (.iload_n 1, 1) := by decide +kernel
theorem dX4_clear_47 : decode cX4_clear 47 = .ok (.iconst 0, 1) := by decide +kernel
theorem dX4_clear_48 : decode cX4_clear 48 = .ok (.bastore, 1) := by decide +kernel
theorem dX4_clear_49 : decode cX4_clear 49 = .ok (.iinc 1 1, 3) := by decide +kernel
theorem dX4_clear_52 : decode cX4_clear 52 = .ok (.goto (-15), 3) := by decide +kernel
theorem dX4_clear_55 : decode cX4_clear 55 = .ok (.aload_n 0, 1) := by decide +kernel
theorem dX4_clear_56 : decode cX4_clear 56 = .ok (.iconst 0, 1) := by decide +kernel
theorem dX4_clear_57 : decode cX4_clear 57 = .ok (.invokevirtual 41, 3) := by decide +kernel
theorem dX4_clear_60 : decode cX4_clear 60 = .ok (.return_, 1) := by decide +kernel
theorem dX4_fillLikelihoods_0 : decode cX4_fillLikelihoods 0 = .ok (.iconst 0, 1) := by decide +kernel
theorem dX4_fillLikelihoods_1 : decode cX4_fillLikelihoods 1 = .ok (.istore_n 2, 1) := by decide +kernel
theorem dX4_fillLikelihoods_2 : decode cX4_fillLikelihoods 2 = .ok (.iload_n 2, 1) := by decide +kernel
theorem dX4_fillLikelihoods_3 : decode cX4_fillLikelihoods 3 = .ok (.bipush 20, 2) := by decide +kernel
theorem dX4_fillLikelihoods_5 : decode cX4_fillLikelihoods 5 = .ok (.if_icmp .ge 16, 3) := by decide +kernel
theorem dX4_fillLikelihoods_8 : decode cX4_fillLikelihoods 8 = .ok (.aload_n 0, 1) := by decide +kernel
theorem dX4_fillLikelihoods_9 : decode cX4_fillLikelihoods 9 = .ok (.getfield 28, 3) := by decide +kernel
theorem dX4_fillLikelihoods_12 : decode cX4_fillLikelihoods 12 = .ok (.iload_n 2, 1) := by decide +kernel
theorem dX4_fillLikelihoods_13 : decode cX4_fillLikelihoods 13 = .ok (.iload_n 1, 1) := by decide +kernel
theorem dX4_fillLikelihoods_14 : decode cX4_fillLikelihoods 14 = .ok (.iastore, 1) := by decide +kernel
theorem dX4_fillLikelihoods_15 : decode cX4_fillLikelihoods 15 = .ok (.iinc 2 1, 3) := by decide +kernel
theorem dX4_fillLikelihoods_18 : decode cX4_fillLikelihoods 18 = .ok (.goto (-16), 3) := by decide +kernel
theorem dX4_fillLikelihoods_21 : decode cX4_fillLikelihoods 21 = .ok (.return_, 1) := by decide +kernel
theorem dX4_copy_0 : decode cX4_copy 0 = .ok (.aload_n 0, 1) := by decide +kernel
theorem dX4_copy_1 : decode cX4_copy 1 = .ok (.aload_n 1, 1) := by decide +kernel
theorem dX4_copy_2 : decode cX4_copy 2 = .ok (.getfield 31, 3) := by decide +kernel
theorem dX4_copy_5 : decode cX4_copy 5 = .ok (.putfield 31, 3) := by decide +kernel
theorem dX4_copy_8 : decode cX4_copy 8 = .ok (.aload_n 0, 1) := by decide +kernel
theorem dX4_copy_9 : decode cX4_copy 9 = .ok (.aload_n 1, 1) := by decide +kernel
theorem dX4_copy_10 : decode cX4_copy 10 = .ok (.getfield 35, 3) := by decide +kernel
theorem dX4_copy_13 : decode cX4_copy 13 = .ok (.putfield 35, 3) := by decide +kernel
theorem dX4_copy_16 : decode cX4_copy 16 = .ok (.aload_n 0, 1) := by decide +kernel
theorem dX4_copy_17 : decode cX4_copy 17 = .ok (.aload_n 1, 1) := by decide +kernel
theorem dX4_copy_18 : decode cX4_copy 18 = .ok (.getfield 38, 3) := by decide +kernel
theorem dX4_copy_21 : decode cX4_copy 21 = .ok (.putfield 38, 3) := by decide +kernel
theorem dX4_copy_24 : decode cX4_copy 24 = .ok (.aload_n 1, 1) := by decide +kernel
theorem dX4_copy_25 : decode cX4_copy 25 = .ok (.getfield 9, 3) := by decide +kernel
theorem dX4_copy_28 : decode cX4_copy 28 = .ok (.iconst 0, 1) := by decide +kernel
theorem dX4_copy_29 : decode cX4_copy 29 = .ok (.aload_n 0, 1) := by decide +kernel
theorem dX4_copy_30 : decode cX4_copy 30 = .ok (.getfield 9, 3) := by decide +kernel
theorem dX4_copy_33 : decode cX4_copy 33 = .ok (.iconst 0, 1) := by decide +kernel
theorem dX4_copy_34 : decode cX4_copy 34 = .ok (.iconst 4, 1) := by decide +kernel
theorem dX4_copy_35 : decode cX4_copy 35 = .ok (.invokestatic 45, 3) := by decide +kernel
theorem dX4_copy_38 : decode cX4_copy 38 = .ok (.aload_n 1, 1) := by decide +kernel
theorem dX4_copy_39 : decode cX4_copy 39 = .ok (.getfield 15, 3) := by decide +kernel
theorem dX4_copy_42 : decode cX4_copy 42 = .ok (.iconst 0, 1) := by decide +kernel
theorem dX4_copy_43 : decode cX4_copy 43 = .ok (.aload_n 0, 1) := by decide +kernel
theorem dX4_copy_44 : decode cX4_copy 44 = .ok (.getfield 15, 3) := by decide +kernel
theorem dX4_copy_47 : decode cX4_copy 47 = .ok (.iconst 0, 1) := by decide +kernel
theorem dX4_copy_48 : decode cX4_copy 48 = .ok (.iconst 4, 1) := by decide +kernel
theorem dX4_copy_49 : decode cX4_copy 49 = .ok (.invokestatic 45, 3) := by decide +kernel
theorem dX4_copy_52 : decode cX4_copy 52 = .ok (.aload_n 1, 1) := by decide +kernel
theorem dX4_copy_53 : decode cX4_copy 53 = .ok (.getfield 18, 3) := by decide +kernel
theorem dX4_copy_56 : decode cX4_copy 56 = .ok (.iconst 0, 1) := by decide +kernel
theorem dX4_copy_57 : decode cX4_copy 57 = .ok (.aload_n 0, 1) := by decide +kernel
theorem dX4_copy_58 : decode cX4_copy 58 = .ok (.getfield 18, 3) := by decide +kernel
theorem dX4_copy_61 : decode cX4_copy 61 = .ok (.iconst 0, 1) := by decide +kernel
theorem dX4_copy_62 : decode cX4_copy 62 = .ok (.iconst 4, 1) := by decide +kernel
theorem dX4_copy_63 : decode cX4_copy 63 = .ok (.invokestatic 45, 3) := by decide +kernel
theorem dX4_copy_66 : decode cX4_copy 66 = .ok (.aload_n 1, 1) := by decide +kernel
theorem dX4_copy_67 : decode cX4_copy 67 = .ok (.getfield 21, 3) := by decide +kernel
theorem dX4_copy_70 : decode cX4_copy 70 = .ok (.iconst 0, 1) := by decide +kernel
theorem dX4_copy_71 : decode cX4_copy 71 = .ok (.aload_n 0, 1) := by decide +kernel
theorem dX4_copy_72 : decode cX4_copy 72 = .ok (.getfield 21, 3) := by decide +kernel
theorem dX4_copy_75 : decode cX4_copy 75 = .ok (.iconst 0, 1) := by decide +kernel
theorem dX4_copy_76 : decode cX4_copy 76 = .ok (.iconst 4, 1) := by decide +kernel
theorem dX4_copy_77 : decode cX4_copy 77 = .ok (.invokestatic 45, 3) := by decide +kernel
theorem dX4_copy_80 : decode cX4_copy 80 = .ok (.aload_n 1, 1) := by decide +kernel
theorem dX4_copy_81 : decode cX4_copy 81 = .ok (.getfield 28, 3) := by decide +kernel
theorem dX4_copy_84 : decode cX4_copy 84 = .ok (.iconst 0, 1) := by decide +kernel
theorem dX4_copy_85 : decode cX4_copy 85 = .ok (.aload_n 0, 1) := by decide +kernel
theorem dX4_copy_86 : decode cX4_copy 86 = .ok (.getfield 28, 3) := by decide +kernel
theorem dX4_copy_89 : decode cX4_copy 89 = .ok (.iconst 0, 1) := by decide +kernel
theorem dX4_copy_90 : decode cX4_copy 90 = .ok (.bipush 20, 2) := by decide +kernel
theorem dX4_copy_92 : decode cX4_copy 92 = .ok (.invokestatic 45, 3) := by decide +kernel
theorem dX4_copy_95 : decode cX4_copy 95 = .ok (.iconst 0, 1) := by decide +kernel
theorem dX4_copy_96 : decode cX4_copy 96 = .ok (.istore_n 2, 1) := by decide +kernel
theorem dX4_copy_97 : decode cX4_copy 97 = .ok (.iload_n 2, 1) := by decide +kernel
theorem dX4_copy_98 : decode cX4_copy 98 = .ok (.iconst 2, 1) := by decide +kernel
theorem dX4_copy_99 : decode cX4_copy 99 = .ok (.if_icmp .ge 21, 3) := by decide +kernel
theorem dX4_copy_102 : decode cX4_copy 102 = .ok (.aload_n 0, 1) := by decide +kernel
theorem dX4_copy_103 : decode cX4_copy 103 = .ok (.getfield 24, 3) := by decide +kernel
theorem dX4_copy_106 : decode cX4_copy 106 = .ok (.iload_n 2, 1) := by decide +kernel
theorem dX4_copy_107 : decode cX4_copy 107 = .ok (.aload_n 1, 1) := by decide +kernel
theorem dX4_copy_108 : decode cX4_copy 108 = .ok (.getfield 24, 3) := by decide +kernel
theorem dX4_copy_111 : decode cX4_copy 111 = .ok (.iload_n 2, 1) := by decide +kernel
theorem dX4_copy_112 : decode cX4_copy 112 = .ok (.baload, 1) := by decide +kernel
theorem dX4_copy_113 : decode cX4_copy 113 = .ok (.bastore, 1) := by decide +kernel
theorem dX4_copy_114 : decode cX4_copy 114 = .ok (.iinc 2 1, 3) := by decide +kernel
theorem dX4_copy_117 : decode cX4_copy 117 = .ok (.goto (-20), 3) := by decide +kernel
theorem dX4_copy_120 : decode cX4_copy 120 = .ok (.return_, 1) := by decide +kernel
theorem dX4_appendAllele_0 : decode cX4_appendAllele 0 = .ok (.aload_n 0, 1) := by decide +kernel
theorem dX4_appendAllele_1 : decode cX4_appendAllele 1 = .ok (.getfield 38, 3) := by decide +kernel
theorem dX4_appendAllele_4 : decode cX4_appendAllele 4 = .ok (.iconst 4, 1) := by decide +kernel
theorem dX4_appendAllele_5 : decode cX4_appendAllele 5 = .ok (.if_icmp .ge 43, 3) := by decide +kernel
theorem dX4_appendAllele_8 : decode cX4_appendAllele 8 = .ok (.aload_n 0, 1) := by decide +kernel
theorem dX4_appendAllele_9 : decode cX4_appendAllele 9 = .ok (.getfield 9, 3) := by decide +kernel
theorem dX4_appendAllele_12 : decode cX4_appendAllele 12 = .ok (.aload_n 0, 1) := by decide +kernel
theorem dX4_appendAllele_13 : decode cX4_appendAllele 13 = .ok (.getfield 38, 3) := by decide +kernel
theorem dX4_appendAllele_16 : decode cX4_appendAllele 16 = .ok (.iload_n 1, 1) := by decide +kernel
theorem dX4_appendAllele_17 : decode cX4_appendAllele 17 = .ok (.iastore, 1) := by decide +kernel
theorem dX4_appendAllele_18 : decode cX4_appendAllele 18 = .ok (.aload_n 0, 1) := by decide +kernel
theorem dX4_appendAllele_19 : decode cX4_appendAllele 19 = .ok (.getfield 15, 3) := by decide +kernel
theorem dX4_appendAllele_22 : decode cX4_appendAllele 22 = .ok (.aload_n 0, 1) := by decide +kernel
theorem dX4_appendAllele_23 : decode cX4_appendAllele 23 = .ok (.getfield 38, 3) := by decide +kernel
theorem dX4_appendAllele_26 : decode cX4_appendAllele 26 = .ok (.iload_n 2, 1) := by decide +kernel
theorem dX4_appendAllele_27 : decode cX4_appendAllele 27 = .ok (.iastore, 1) := by decide +kernel
theorem dX4_appendAllele_28 : decode cX4_appendAllele 28 = .ok (.aload_n 0, 1) := by decide +kernel
theorem dX4_appendAllele_29 : decode cX4_appendAllele 29 = .ok (.getfield 18, 3) := by decide +kernel
theorem dX4_appendAllele_32 : decode cX4_appendAllele 32 = .ok (.aload_n 0, 1) := by decide +kernel
theorem dX4_appendAllele_33 : decode cX4_appendAllele 33 = .ok (.getfield 38, 3) := by decide +kernel
theorem dX4_appendAllele_36 : decode cX4_appendAllele 36 = .ok (.iconst 0, 1) := by decide +kernel
theorem dX4_appendAllele_37 : decode cX4_appendAllele 37 = .ok (.iastore, 1) := by decide +kernel
theorem dX4_appendAllele_38 : decode cX4_appendAllele 38 = .ok (.aload_n 0, 1) := by decide +kernel
theorem dX4_appendAllele_39 : decode cX4_appendAllele 39 = .ok (.dup, 1) := by decide +kernel
theorem dX4_appendAllele_40 : decode cX4_appendAllele 40 = .ok (.getfield 38, 3) := by decide +kernel
theorem dX4_appendAllele_43 : decode cX4_appendAllele 43 = .ok (.iconst 1, 1) := by decide +kernel
theorem dX4_appendAllele_44 : decode cX4_appendAllele 44 = .ok (.iadd, 1) := by decide +kernel
theorem dX4_appendAllele_45 : decode cX4_appendAllele 45 = .ok (.putfield 38, 3) := by decide +kernel
theorem dX4_appendAllele_48 : decode cX4_appendAllele 48 = .ok (.return_, 1) := by decide +kernel
theorem dX4_find_0 : decode cX4_find 0 = .ok (.iconst 0, 1) := by decide +kernel
theorem dX4_find_1 : decode cX4_find 1 = .ok (.istore_n 3, 1) := by decide +kernel
theorem dX4_find_2 : decode cX4_find 2 = .ok (.iload_n 3, 1) := by decide +kernel
theorem dX4_find_3 : decode cX4_find 3 = .ok (.aload_n 0, 1) := by decide +kernel
theorem dX4_find_4 : decode cX4_find 4 = .ok (.getfield 38, 3) := by decide +kernel
theorem dX4_find_7 : decode cX4_find 7 = .ok (.if_icmp .ge 31, 3) := by decide +kernel
theorem dX4_find_10 : decode cX4_find 10 = .ok (.aload_n 0, 1) := by decide +kernel
theorem dX4_find_11 : decode cX4_find 11 = .ok (.getfield 9, 3) := by decide +kernel
theorem dX4_find_14 : decode cX4_find 14 = .ok (.iload_n 3, 1) := by decide +kernel
theorem dX4_find_15 : decode cX4_find 15 = .ok (.iaload, 1) := by decide +kernel
theorem dX4_find_16 : decode cX4_find 16 = .ok (.iload_n 1, 1) := by decide +kernel
theorem dX4_find_17 : decode cX4_find 17 = .ok (.if_icmp .ne 15, 3) := by decide +kernel
theorem dX4_find_20 : decode cX4_find 20 = .ok (.aload_n 0, 1) := by decide +kernel
theorem dX4_find_21 : decode cX4_find 21 = .ok (.getfield 15, 3) := by decide +kernel
theorem dX4_find_24 : decode cX4_find 24 = .ok (.iload_n 3, 1) := by decide +kernel
theorem dX4_find_25 : decode cX4_find 25 = .ok (.iaload, 1) := by decide +kernel
theorem dX4_find_26 : decode cX4_find 26 = .ok (.iload_n 2, 1) := by decide +kernel
theorem dX4_find_27 : decode cX4_find 27 = .ok (.if_icmp .ne 5, 3) := by decide +kernel
theorem dX4_find_30 : decode cX4_find 30 = .ok (.iload_n 3, 1) := by decide +kernel
theorem dX4_find_31 : decode cX4_find 31 = .ok (.ireturn, 1) := by decide +kernel
theorem dX4_find_32 : decode cX4_find 32 = .ok (.iinc 3 1, 3) := by decide +kernel
theorem dX4_find_35 : decode cX4_find 35 = .ok (.goto (-33), 3) := by decide +kernel
theorem dX4_find_38 : decode cX4_find 38 = .ok (.iconst (-1), 1) := by decide +kernel
theorem dX4_find_39 : decode cX4_find 39 = .ok (.ireturn, 1) := by decide +kernel
theorem dX4_hasAllele_0 : decode cX4_hasAllele 0 = .ok (.iload_n 1, 1) := by decide +kernel
theorem dX4_hasAllele_1 : decode cX4_hasAllele 1 = .ok (.ifCond .lt 15, 3) := by decide +kernel
theorem dX4_hasAllele_4 : decode cX4_hasAllele 4 = .ok (.iload_n 1, 1) := by decide +kernel
theorem dX4_hasAllele_5 : decode cX4_hasAllele 5 = .ok (.aload_n 0, 1) := by decide +kernel
theorem dX4_hasAllele_6 : decode cX4_hasAllele 6 = .ok (.getfield 38, 3) := by decide +kernel
theorem dX4_hasAllele_9 : decode cX4_hasAllele 9 = .ok (.if_icmp .ge 7, 3) := by decide +kernel
theorem dX4_hasAllele_12 : decode cX4_hasAllele 12 = .ok (.iconst 1, 1) := by decide +kernel
theorem dX4_hasAllele_13 : decode cX4_hasAllele 13 = .ok (.goto 4, 3) := by decide +kernel
theorem dX4_hasAllele_16 : decode cX4_hasAllele 16 = .ok (.iconst 0, 1) := by decide +kernel
theorem dX4_hasAllele_17 : decode cX4_hasAllele 17 = .ok (.ireturn, 1) := by decide +kernel
theorem dX4_allowsInGenotype_0 : decode cX4_allowsInGenotype 0 = .ok (.iload_n 1, 1) := by decide +kernel
theorem dX4_allowsInGenotype_1 : decode cX4_allowsInGenotype 1 = .ok (.iconst (-1), 1) := by decide +kernel
theorem dX4_allowsInGenotype_2 : decode cX4_allowsInGenotype 2 = .ok (.if_icmp .eq 11, 3) := by decide +kernel
theorem dX4_allowsInGenotype_5 : decode cX4_allowsInGenotype 5 = .ok (.aload_n 0, 1) := by decide +kernel
theorem dX4_allowsInGenotype_6 : decode cX4_allowsInGenotype 6 = .ok (.iload_n 1, 1) := by decide +kernel
theorem dX4_allowsInGenotype_7 : decode cX4_allowsInGenotype 7 = .ok (.invokevirtual 51, 3) := by decide +kernel
theorem dX4_allowsInGenotype_10 : decode cX4_allowsInGenotype 10 = .ok (.ifCond .eq 7, 3) := by decide +kernel
theorem dX4_allowsInGenotype_13 : decode cX4_allowsInGenotype 13 = .ok (.iconst 1, 1) := by decide +kernel
theorem dX4_allowsInGenotype_14 : decode cX4_allowsInGenotype 14 = .ok (.goto 4, 3) := by decide +kernel
theorem dX4_allowsInGenotype_17 : decode cX4_allowsInGenotype 17 = .ok (.iconst 0, 1) := by decide +kernel
theorem dX4_allowsInGenotype_18 : decode cX4_allowsInGenotype 18 = .ok (.ireturn, 1) := by decide +kernel
theorem dX4_pairs_0 : decode cX4_pairs 0 = .ok (.aload_n 0, 1) := by decide +kernel
theorem dX4_pairs_1 : decode cX4_pairs 1 = .ok (.getfield 38, 3) := by decide +kernel
theorem dX4_pairs_4 : decode cX4_pairs 4 = .ok (.aload_n 0, 1) := by decide +kernel
theorem dX4_pairs_5 : decode cX4_pairs 5 = .ok (.getfield 38, 3) := by decide +kernel
theorem dX4_pairs_8 : decode cX4_pairs 8 = .ok (.iconst 1, 1) := by decide +kernel
theorem dX4_pairs_9 : decode cX4_pairs 9 = .ok (.iadd, 1) := by decide +kernel
theorem dX4_pairs_10 : decode cX4_pairs 10 = .ok (.imul, 1) := by decide +kernel
theorem dX4_pairs_11 : decode cX4_pairs 11 = .ok (.iconst 2, 1) := by decide +kernel
theorem dX4_pairs_12 : decode cX4_pairs 12 = .ok (.idiv, 1) := by decide +kernel
theorem dX4_pairs_13 : decode cX4_pairs 13 = .ok (.ireturn, 1) := by decide +kernel
theorem dX4_lastPlace_0 : decode cX4_lastPlace 0 = .ok (.aload_n 0, 1) := by decide +kernel
theorem dX4_lastPlace_1 : decode cX4_lastPlace 1 = .ok (.getfield 31, 3) := by decide +kernel
theorem dX4_lastPlace_4 : decode cX4_lastPlace 4 = .ok (.aload_n 0, 1) := by decide +kernel
theorem dX4_lastPlace_5 : decode cX4_lastPlace 5 = .ok (.getfield 15, 3) := by decide +kernel
theorem dX4_lastPlace_8 : decode cX4_lastPlace 8 = .ok (.iconst 0, 1) := by decide +kernel
theorem dX4_lastPlace_9 : decode cX4_lastPlace 9 = .ok (.iaload, 1) := by decide +kernel
theorem dX4_lastPlace_10 : decode cX4_lastPlace 10 = .ok (.iadd, 1) := by decide +kernel
theorem dX4_lastPlace_11 : decode cX4_lastPlace 11 = .ok (.iconst 1, 1) := by decide +kernel
theorem dX4_lastPlace_12 : decode cX4_lastPlace 12 = .ok (.isub, 1) := by decide +kernel
theorem dX4_lastPlace_13 : decode cX4_lastPlace 13 = .ok (.ireturn, 1) := by decide +kernel
theorem dX4_spansOneOf_0 : decode cX4_spansOneOf 0 = .ok (.aload_n 0, 1) := by decide +kernel
theorem dX4_spansOneOf_1 : decode cX4_spansOneOf 1 = .ok (.getfield 31, 3) := by decide +kernel
theorem dX4_spansOneOf_4 : decode cX4_spansOneOf 4 = .ok (.iload_n 2, 1) := by decide +kernel
theorem dX4_spansOneOf_5 : decode cX4_spansOneOf 5 = .ok (.if_icmp .gt 15, 3) := by decide +kernel
theorem dX4_spansOneOf_8 : decode cX4_spansOneOf 8 = .ok (.aload_n 0, 1) := by decide +kernel
theorem dX4_spansOneOf_9 : decode cX4_spansOneOf 9 = .ok (.invokevirtual 55, 3) := by decide +kernel
theorem dX4_spansOneOf_12 : decode cX4_spansOneOf 12 = .ok (.iload_n 1, 1) := by decide +kernel
theorem dX4_spansOneOf_13 : decode cX4_spansOneOf 13 = .ok (.if_icmp .lt 7, 3) := by decide +kernel
theorem dX4_spansOneOf_16 : decode cX4_spansOneOf 16 = .ok (.iconst 1, 1) := by decide +kernel
theorem dX4_spansOneOf_17 : decode cX4_spansOneOf 17 = .ok (.goto 4, 3) := by decide +kernel
theorem dX4_spansOneOf_20 : decode cX4_spansOneOf 20 = .ok (.iconst 0, 1) := by decide +kernel
theorem dX4_spansOneOf_21 : decode cX4_spansOneOf 21 = .ok (.ireturn, 1) := by decide +kernel
theorem dX4_bin_0 : decode cX4_bin 0 = .ok (.aload_n 0, 1) := by decide +kernel
theorem dX4_bin_1 : decode cX4_bin 1 = .ok (.invokevirtual 55, 3) := by decide +kernel
theorem dX4_bin_4 : decode cX4_bin 4 = .ok (.istore_n 1, 1) := by decide +kernel
theorem dX4_bin_5 : decode cX4_bin 5 = .ok (.aload_n 0, 1) := by decide +kernel
theorem dX4_bin_6 : decode cX4_bin 6 = .ok (.getfield 31, 3) := by decide +kernel
theorem dX4_bin_9 : decode cX4_bin 9 = .ok (.iconst 3, 1) := by decide +kernel
theorem dX4_bin_10 : decode cX4_bin 10 = .ok (.ishr, 1) := by decide +kernel
theorem dX4_bin_11 : decode cX4_bin 11 = .ok (.iload_n 1, 1) := by decide +kernel
theorem dX4_bin_12 : decode cX4_bin 12 = .ok (.iconst 3, 1) := by decide +kernel
theorem dX4_bin_13 : decode cX4_bin 13 = .ok (.ishr, 1) := by decide +kernel
theorem dX4_bin_14 : decode cX4_bin 14 = .ok (.if_icmp .ne 13, 3) := by decide +kernel
theorem dX4_bin_17 : decode cX4_bin 17 = .ok (.bipush 11, 2) := by decide +kernel
theorem dX4_bin_19 : decode cX4_bin 19 = .ok (.aload_n 0, 1) := by decide +kernel
theorem dX4_bin_20 : decode cX4_bin 20 = .ok (.getfield 31, 3) := by decide +kernel
theorem dX4_bin_23 : decode cX4_bin 23 = .ok (.iconst 3, 1) := by decide +kernel
theorem dX4_bin_24 : decode cX4_bin 24 = .ok (.ishr, 1) := by decide +kernel
theorem dX4_bin_25 : decode cX4_bin 25 = .ok (.iadd, 1) := by decide +kernel
theorem dX4_bin_26 : decode cX4_bin 26 = .ok (.ireturn, 1) := by decide +kernel
theorem dX4_bin_27 : decode cX4_bin 27 = .ok (.aload_n 0, 1) := by decide +kernel
theorem dX4_bin_28 : decode cX4_bin 28 = .ok (.getfield 31, 3) := by decide +kernel
theorem dX4_bin_31 : decode cX4_bin 31 = .ok (.iconst 5, 1) := by decide +kernel
theorem dX4_bin_32 : decode cX4_bin 32 = .ok (.ishr, 1) := by decide +kernel
theorem dX4_bin_33 : decode cX4_bin 33 = .ok (.iload_n 1, 1) := by decide +kernel
theorem dX4_bin_34 : decode cX4_bin 34 = .ok (.iconst 5, 1) := by decide +kernel
theorem dX4_bin_35 : decode cX4_bin 35 = .ok (.ishr, 1) := by decide +kernel
theorem dX4_bin_36 : decode cX4_bin 36 = .ok (.if_icmp .ne 12, 3) := by decide +kernel
theorem dX4_bin_39 : decode cX4_bin 39 = .ok (.iconst 3, 1) := by decide +kernel
theorem dX4_bin_40 : decode cX4_bin 40 = .ok (.aload_n 0, 1) := by decide +kernel
theorem dX4_bin_41 : decode cX4_bin 41 = .ok (.getfield 31, 3) := by decide +kernel
theorem dX4_bin_44 : decode cX4_bin 44 = .ok (.iconst 5, 1) := by decide +kernel
theorem dX4_bin_45 : decode cX4_bin 45 = .ok (.ishr, 1) := by decide +kernel
theorem dX4_bin_46 : decode cX4_bin 46 = .ok (.iadd, 1) := by decide +kernel
theorem dX4_bin_47 : decode cX4_bin 47 = .ok (.ireturn, 1) := by decide +kernel
theorem dX4_bin_48 : decode cX4_bin 48 = .ok (.aload_n 0, 1) := by decide +kernel
theorem dX4_bin_49 : decode cX4_bin 49 = .ok (.getfield 31, 3) := by decide +kernel
theorem dX4_bin_52 : decode cX4_bin 52 = .ok (.bipush 7, 2) := by decide +kernel
theorem dX4_bin_54 : decode cX4_bin 54 = .ok (.ishr, 1) := by decide +kernel
theorem dX4_bin_55 : decode cX4_bin 55 = .ok (.iload_n 1, 1) := by decide +kernel
theorem dX4_bin_56 : decode cX4_bin 56 = .ok (.bipush 7, 2) := by decide +kernel
theorem dX4_bin_58 : decode cX4_bin 58 = .ok (.ishr, 1) := by decide +kernel
theorem dX4_bin_59 : decode cX4_bin 59 = .ok (.if_icmp .ne 13, 3) := by decide +kernel
theorem dX4_bin_62 : decode cX4_bin 62 = .ok (.iconst 1, 1) := by decide +kernel
theorem dX4_bin_63 : decode cX4_bin 63 = .ok (.aload_n 0, 1) := by decide +kernel
theorem dX4_bin_64 : decode cX4_bin 64 = .ok (.getfield 31, 3) := by decide +kernel
theorem dX4_bin_67 : decode cX4_bin 67 = .ok (.bipush 7, 2) := by decide +kernel
theorem dX4_bin_69 : decode cX4_bin 69 = .ok (.ishr, 1) := by decide +kernel
theorem dX4_bin_70 : decode cX4_bin 70 = .ok (.iadd, 1) := by decide +kernel
theorem dX4_bin_71 : decode cX4_bin 71 = .ok (.ireturn, 1) := by decide +kernel
theorem dX4_bin_72 : decode cX4_bin 72 = .ok (.iconst 0, 1) := by decide +kernel
theorem dX4_bin_73 : decode cX4_bin 73 = .ok (.ireturn, 1) := by decide +kernel
theorem dX4_trim_0 : decode cX4_trim 0 = .ok (.iconst 1, 1) := by decide +kernel
theorem dX4_trim_1 : decode cX4_trim 1 = .ok (.istore_n 2, 1) := by decide +kernel
theorem dX4_trim_2 : decode cX4_trim 2 = .ok (.iconst 0, 1) := by decide +kernel
theorem dX4_trim_3 : decode cX4_trim 3 = .ok (.istore_n 3, 1) := by decide +kernel
theorem dX4_trim_4 : decode cX4_trim 4 = .ok (.iload_n 2, 1) := by decide +kernel
theorem dX4_trim_5 : decode cX4_trim 5 = .ok (.ifCond .eq 37, 3) := by decide +kernel
theorem dX4_trim_8 : decode cX4_trim 8 = .ok (.iload_n 3, 1) := by decide +kernel
theorem dX4_trim_9 : decode cX4_trim 9 = .ok (.sipush 1000, 3) := by decide +kernel
theorem dX4_trim_12 : decode cX4_trim 12 = .ok (.if_icmp .ge 30, 3) := by decide +kernel
theorem dX4_trim_15 : decode cX4_trim 15 = .ok (.aload_n 0, 1) := by decide +kernel
theorem dX4_trim_16 : decode cX4_trim 16 = .ok (.aload_n 1, 1) := by decide +kernel
theorem dX4_trim_17 : decode cX4_trim 17 = .ok (.invokevirtual 59, 3) := by decide +kernel
theorem dX4_trim_20 : decode cX4_trim 20 = .ok (.ifCond .ne 10, 3) := by decide +kernel
theorem dX4_trim_23 : decode cX4_trim 23 = .ok (.aload_n 0, 1) := by decide +kernel
theorem dX4_trim_24 : decode cX4_trim 24 = .ok (.invokevirtual 63, 3) := by decide +kernel
theorem dX4_trim_27 : decode cX4_trim 27 = .ok (.ifCond .eq 7, 3) := by decide +kernel
theorem dX4_trim_30 : decode cX4_trim 30 = .ok (.iconst 1, 1) := by decide +kernel
theorem dX4_trim_31 : decode cX4_trim 31 = .ok (.goto 4, 3) := by decide +kernel
theorem dX4_trim_34 : decode cX4_trim 34 = .ok (.iconst 0, 1) := by decide +kernel
theorem dX4_trim_35 : decode cX4_trim 35 = .ok (.istore_n 2, 1) := by decide +kernel
theorem dX4_trim_36 : decode cX4_trim 36 = .ok (.iinc 3 1, 3) := by decide +kernel
theorem dX4_trim_39 : decode cX4_trim 39 = .ok (.goto (-35), 3) := by decide +kernel
theorem dX4_trim_42 : decode cX4_trim 42 = .ok (.return_, 1) := by decide +kernel
theorem dX4_trimEnd_0 : decode cX4_trimEnd 0 = .ok (.aload_n 0, 1) := by decide +kernel
theorem dX4_trimEnd_1 : decode cX4_trimEnd 1 = .ok (.invokevirtual 67, 3) := by decide +kernel
theorem dX4_trimEnd_4 : decode cX4_trimEnd 4 = .ok (.ifCond .eq 19, 3) := by decide +kernel
theorem dX4_trimEnd_7 : decode cX4_trimEnd 7 = .ok (.aload_n 0, 1) := by decide +kernel
theorem dX4_trimEnd_8 : decode cX4_trimEnd 8 = .ok (.getfield 31, 3) := by decide +kernel
theorem dX4_trimEnd_11 : decode cX4_trimEnd 11 = .ok (.iconst 1, 1) := by decide +kernel
theorem dX4_trimEnd_12 : decode cX4_trimEnd 12 = .ok (.if_icmp .ne 13, 3) := by decide +kernel
theorem dX4_trimEnd_15 : decode cX4_trimEnd 15 = .ok (.aload_n 0, 1) := by decide +kernel
theorem dX4_trimEnd_16 : decode cX4_trimEnd 16 = .ok (.invokevirtual 70, 3) := by decide +kernel
theorem dX4_trimEnd_19 : decode cX4_trimEnd 19 = .ok (.iconst 2, 1) := by decide +kernel
theorem dX4_trimEnd_20 : decode cX4_trimEnd 20 = .ok (.if_icmp .ge 5, 3) := by decide +kernel
theorem dX4_trimEnd_23 : decode cX4_trimEnd 23 = .ok (.iconst 0, 1) := by decide +kernel
theorem dX4_trimEnd_24 : decode cX4_trimEnd 24 = .ok (.ireturn, 1) := by decide +kernel
theorem dX4_trimEnd_25 : decode cX4_trimEnd 25 = .ok (.iconst 0, 1) := by decide +kernel
theorem dX4_trimEnd_26 : decode cX4_trimEnd 26 = .ok (.istore_n 2, 1) := by decide +kernel
theorem dX4_trimEnd_27 : decode cX4_trimEnd 27 = .ok (.iload_n 2, 1) := by decide +kernel
theorem dX4_trimEnd_28 : decode cX4_trimEnd 28 = .ok (.aload_n 0, 1) := by decide +kernel
theorem dX4_trimEnd_29 : decode cX4_trimEnd 29 = .ok (.getfield 38, 3) := by decide +kernel
theorem dX4_trimEnd_32 : decode cX4_trimEnd 32 = .ok (.if_icmp .ge 33, 3) := by decide +kernel
theorem dX4_trimEnd_35 : decode cX4_trimEnd 35 = .ok (.aload_n 0, 1) := by decide +kernel
theorem dX4_trimEnd_36 : decode cX4_trimEnd 36 = .ok (.getfield 9, 3) := by decide +kernel
theorem dX4_trimEnd_39 : decode cX4_trimEnd 39 = .ok (.iload_n 2, 1) := by decide +kernel
theorem dX4_trimEnd_40 : decode cX4_trimEnd 40 = .ok (.aload_n 0, 1) := by decide +kernel
theorem dX4_trimEnd_41 : decode cX4_trimEnd 41 = .ok (.getfield 9, 3) := by decide +kernel
theorem dX4_trimEnd_44 : decode cX4_trimEnd 44 = .ok (.iload_n 2, 1) := by decide +kernel
theorem dX4_trimEnd_45 : decode cX4_trimEnd 45 = .ok (.iaload, 1) := by decide +kernel
theorem dX4_trimEnd_46 : decode cX4_trimEnd 46 = .ok (.iconst 2, 1) := by decide +kernel
theorem dX4_trimEnd_47 : decode cX4_trimEnd 47 = .ok (.ishr, 1) := by decide +kernel
theorem dX4_trimEnd_48 : decode cX4_trimEnd 48 = .ok (.iastore, 1) := by decide +kernel
theorem dX4_trimEnd_49 : decode cX4_trimEnd 49 = .ok (.aload_n 0, 1) := by decide +kernel
theorem dX4_trimEnd_50 : decode cX4_trimEnd 50 = .ok (.getfield 15, 3) := by decide +kernel
theorem dX4_trimEnd_53 : decode cX4_trimEnd 53 = .ok (.iload_n 2, 1) := by decide +kernel
theorem dX4_trimEnd_54 : decode cX4_trimEnd 54 = .ok (.dup2, 1) := by decide +kernel
theorem dX4_trimEnd_55 : decode cX4_trimEnd 55 = .ok (.iaload, 1) := by decide +kernel
theorem dX4_trimEnd_56 : decode cX4_trimEnd 56 = .ok (.iconst 1, 1) := by decide +kernel
theorem dX4_trimEnd_57 : decode cX4_trimEnd 57 = .ok (.isub, 1) := by decide +kernel
theorem dX4_trimEnd_58 : decode cX4_trimEnd 58 = .ok (.iastore, 1) := by decide +kernel
theorem dX4_trimEnd_59 : decode cX4_trimEnd 59 = .ok (.iinc 2 1, 3) := by decide +kernel
theorem dX4_trimEnd_62 : decode cX4_trimEnd 62 = .ok (.goto (-35), 3) := by decide +kernel
theorem dX4_trimEnd_65 : decode cX4_trimEnd 65 = .ok (.aload_n 0, 1) := by decide +kernel
theorem dX4_trimEnd_66 : decode cX4_trimEnd 66 = .ok (.invokevirtual 70, 3) := by decide +kernel
theorem dX4_trimEnd_69 : decode cX4_trimEnd 69 = .ok (.ifCond .ne 26, 3) := by decide +kernel
theorem dX4_trimEnd_72 : decode cX4_trimEnd 72 = .ok (.aload_n 0, 1) := by decide +kernel
theorem dX4_trimEnd_73 : decode cX4_trimEnd 73 = .ok (.dup, 1) := by decide +kernel
theorem dX4_trimEnd_74 : decode cX4_trimEnd 74 = .ok (.getfield 31, 3) := by decide +kernel
theorem dX4_trimEnd_77 : decode cX4_trimEnd 77 = .ok (.iconst 1, 1) := by decide +kernel
theorem dX4_trimEnd_78 : decode cX4_trimEnd 78 = .ok (.isub, 1) := by decide +kernel
theorem dX4_trimEnd_79 : decode cX4_trimEnd 79 = .ok (.putfield 31, 3) := by decide +kernel
theorem dX4_trimEnd_82 : decode cX4_trimEnd 82 = .ok (.aload_n 0, 1) := by decide +kernel
theorem dX4_trimEnd_83 : decode cX4_trimEnd 83 = .ok (.aload_n 1, 1) := by decide +kernel
theorem dX4_trimEnd_84 : decode cX4_trimEnd 84 = .ok (.aload_n 0, 1) := by decide +kernel
theorem dX4_trimEnd_85 : decode cX4_trimEnd 85 = .ok (.getfield 31, 3) := by decide +kernel
theorem dX4_trimEnd_88 : decode cX4_trimEnd 88 = .ok (.iconst 1, 1) := by decide +kernel
theorem dX4_trimEnd_89 : decode cX4_trimEnd 89 = .ok (.invokevirtual 73, 3) := by decide +kernel
theorem dX4_trimEnd_92 : decode cX4_trimEnd 92 = .ok (.invokevirtual 78, 3) := by decide +kernel
theorem dX4_trimEnd_95 : decode cX4_trimEnd 95 = .ok (.iconst 1, 1) := by decide +kernel
theorem dX4_trimEnd_96 : decode cX4_trimEnd 96 = .ok (.ireturn, 1) := by decide +kernel
theorem dX4_trimFront_0 : decode cX4_trimFront 0 = .ok (.aload_n 0, 1) := by decide +kernel
theorem dX4_trimFront_1 : decode cX4_trimFront 1 = .ok (.invokevirtual 70, 3) := by decide +kernel
theorem dX4_trimFront_4 : decode cX4_trimFront 4 = .ok (.iconst 2, 1) := by decide +kernel
theorem dX4_trimFront_5 : decode cX4_trimFront 5 = .ok (.if_icmp .lt 10, 3) := by decide +kernel
theorem dX4_trimFront_8 : decode cX4_trimFront 8 = .ok (.aload_n 0, 1) := by decide +kernel
theorem dX4_trimFront_9 : decode cX4_trimFront 9 = .ok (.invokevirtual 81, 3) := by decide +kernel
theorem dX4_trimFront_12 : decode cX4_trimFront 12 = .ok (.ifCond .ne 5, 3) := by decide +kernel
theorem dX4_trimFront_15 : decode cX4_trimFront 15 = .ok (.iconst 0, 1) := by decide +kernel
theorem dX4_trimFront_16 : decode cX4_trimFront 16 = .ok (.ireturn, 1) := by decide +kernel
theorem dX4_trimFront_17 : decode cX4_trimFront 17 = .ok (.iconst 0, 1) := by decide +kernel
theorem dX4_trimFront_18 : decode cX4_trimFront 18 = .ok (.istore_n 1, 1) := by decide +kernel
theorem dX4_trimFront_19 : decode cX4_trimFront 19 = .ok (.iload_n 1, 1) := by decide +kernel
theorem dX4_trimFront_20 : decode cX4_trimFront 20 = .ok (.aload_n 0, 1) := by decide +kernel
theorem dX4_trimFront_21 : decode cX4_trimFront 21 = .ok (.getfield 38, 3) := by decide +kernel
theorem dX4_trimFront_24 : decode cX4_trimFront 24 = .ok (.if_icmp .ge 41, 3) := by decide +kernel
theorem dX4_trimFront_27 : decode cX4_trimFront 27 = .ok (.aload_n 0, 1) := by decide +kernel
theorem dX4_trimFront_28 : decode cX4_trimFront 28 = .ok (.getfield 15, 3) := by decide +kernel
theorem dX4_trimFront_31 : decode cX4_trimFront 31 = .ok (.iload_n 1, 1) := by decide +kernel
theorem dX4_trimFront_32 : decode cX4_trimFront 32 = .ok (.dup2, 1) := by decide +kernel
theorem dX4_trimFront_33 : decode cX4_trimFront 33 = .ok (.iaload, 1) := by decide +kernel
theorem dX4_trimFront_34 : decode cX4_trimFront 34 = .ok (.iconst 1, 1) := by decide +kernel
theorem dX4_trimFront_35 : decode cX4_trimFront 35 = .ok (.isub, 1) := by decide +kernel
theorem dX4_trimFront_36 : decode cX4_trimFront 36 = .ok (.iastore, 1) := by decide +kernel
theorem dX4_trimFront_37 : decode cX4_trimFront 37 = .ok (.aload_n 0, 1) := by decide +kernel
theorem dX4_trimFront_38 : decode cX4_trimFront 38 = .ok (.getfield 9, 3) := by decide +kernel
theorem dX4_trimFront_41 : decode cX4_trimFront 41 = .ok (.iload_n 1, 1) := by decide +kernel
theorem dX4_trimFront_42 : decode cX4_trimFront 42 = .ok (.aload_n 0, 1) := by decide +kernel
theorem dX4_trimFront_43 : decode cX4_trimFront 43 = .ok (.getfield 9, 3) := by decide +kernel
theorem dX4_trimFront_46 : decode cX4_trimFront 46 = .ok (.iload_n 1, 1) := by decide +kernel
theorem dX4_trimFront_47 : decode cX4_trimFront 47 = .ok (.iaload, 1) := by decide +kernel
theorem dX4_trimFront_48 : decode cX4_trimFront 48 = .ok (.aload_n 0, 1) := by decide +kernel
theorem dX4_trimFront_49 : decode cX4_trimFront 49 = .ok (.getfield 15, 3) := by decide +kernel
theorem dX4_trimFront_52 : decode cX4_trimFront 52 = .ok (.iload_n 1, 1) := by decide +kernel
theorem dX4_trimFront_53 : decode cX4_trimFront 53 = .ok (.iaload, 1) := by decide +kernel
theorem dX4_trimFront_54 : decode cX4_trimFront 54 = .ok (.invokestatic 84, 3) := by decide +kernel
theorem dX4_trimFront_57 : decode cX4_trimFront 57 = .ok (.iand, 1) := by decide +kernel
theorem dX4_trimFront_58 : decode cX4_trimFront 58 = .ok (.iastore, 1) := by decide +kernel
theorem dX4_trimFront_59 : decode cX4_trimFront 59 = .ok (.iinc 1 1, 3) := by decide +kernel
theorem dX4_trimFront_62 : decode cX4_trimFront 62 = .ok (.goto (-43), 3) := by decide +kernel
theorem dX4_trimFront_65 : decode cX4_trimFront 65 = .ok (.aload_n 0, 1) := by decide +kernel
theorem dX4_trimFront_66 : decode cX4_trimFront 66 = .ok (.dup, 1) := by decide +kernel
theorem dX4_trimFront_67 : decode cX4_trimFront 67 = .ok (.getfield 31, 3) := by decide +kernel
theorem dX4_trimFront_70 : decode cX4_trimFront 70 = .ok (.iconst 1, 1) := by decide +kernel
theorem dX4_trimFront_71 : decode cX4_trimFront 71 = .ok (.iadd, 1) := by decide +kernel
theorem dX4_trimFront_72 : decode cX4_trimFront 72 = .ok (.putfield 31, 3) := by decide +kernel
theorem dX4_trimFront_75 : decode cX4_trimFront 75 = .ok (.iconst 1, 1) := by decide +kernel
theorem dX4_trimFront_76 : decode cX4_trimFront 76 = .ok (.ireturn, 1) := by decide +kernel
theorem dX4_putInFront_0 : decode cX4_putInFront 0 = .ok (.iconst 0, 1) := by decide +kernel
theorem dX4_putInFront_1 : decode cX4_putInFront 1 = .ok (.istore_n 2, 1) := by decide +kernel
theorem dX4_putInFront_2 : decode cX4_putInFront 2 = .ok (.iload_n 2, 1) := by decide +kernel
theorem dX4_putInFront_3 : decode cX4_putInFront 3 = .ok (.aload_n 0, 1) := by decide +kernel
theorem dX4_putInFront_4 : decode cX4_putInFront 4 = .ok (.getfield 38, 3) := by decide +kernel
theorem dX4_putInFront_7 : decode cX4_putInFront 7 = .ok (.if_icmp .ge 42, 3) := by decide +kernel
theorem dX4_putInFront_10 : decode cX4_putInFront 10 = .ok (.aload_n 0, 1) := by decide +kernel
theorem dX4_putInFront_11 : decode cX4_putInFront 11 = .ok (.getfield 9, 3) := by decide +kernel
theorem dX4_putInFront_14 : decode cX4_putInFront 14 = .ok (.iload_n 2, 1) := by decide +kernel
theorem dX4_putInFront_15 : decode cX4_putInFront 15 = .ok (.aload_n 0, 1) := by decide +kernel
theorem dX4_putInFront_16 : decode cX4_putInFront 16 = .ok (.getfield 9, 3) := by decide +kernel
theorem dX4_putInFront_19 : decode cX4_putInFront 19 = .ok (.iload_n 2, 1) := by decide +kernel
theorem dX4_putInFront_20 : decode cX4_putInFront 20 = .ok (.iaload, 1) := by decide +kernel
theorem dX4_putInFront_21 : decode cX4_putInFront 21 = .ok (.iload_n 1, 1) := by decide +kernel
theorem dX4_putInFront_22 : decode cX4_putInFront 22 = .ok (.iconst 2, 1) := by decide +kernel
theorem dX4_putInFront_23 : decode cX4_putInFront 23 = .ok (.aload_n 0, 1) := by decide +kernel
theorem dX4_putInFront_24 : decode cX4_putInFront 24 = .ok (.getfield 15, 3) := by decide +kernel
theorem dX4_putInFront_27 : decode cX4_putInFront 27 = .ok (.iload_n 2, 1) := by decide +kernel
theorem dX4_putInFront_28 : decode cX4_putInFront 28 = .ok (.iaload, 1) := by decide +kernel
theorem dX4_putInFront_29 : decode cX4_putInFront 29 = .ok (.imul, 1) := by decide +kernel
theorem dX4_putInFront_30 : decode cX4_putInFront 30 = .ok (.ishl, 1) := by decide +kernel
theorem dX4_putInFront_31 : decode cX4_putInFront 31 = .ok (.ior, 1) := by decide +kernel
theorem dX4_putInFront_32 : decode cX4_putInFront 32 = .ok (.iastore, 1) := by decide +kernel
theorem dX4_putInFront_33 : decode cX4_putInFront 33 = .ok (.aload_n 0, 1) := by decide +kernel
theorem dX4_putInFront_34 : decode cX4_putInFront 34 = .ok (.getfield 15, 3) := by decide +kernel
theorem dX4_putInFront_37 : decode cX4_putInFront 37 = .ok (.iload_n 2, 1) := by decide +kernel
theorem dX4_putInFront_38 : decode cX4_putInFront 38 = .ok (.dup2, 1) := by decide +kernel
theorem dX4_putInFront_39 : decode cX4_putInFront 39 = .ok (.iaload, 1) := by decide +kernel
theorem dX4_putInFront_40 : decode cX4_putInFront 40 = .ok (.iconst 1, 1) := by decide +kernel
theorem dX4_putInFront_41 : decode cX4_putInFront 41 = .ok (.iadd, 1) := by decide +kernel
theorem dX4_putInFront_42 : decode cX4_putInFront 42 = .ok (.iastore, 1) := by decide +kernel
theorem dX4_putInFront_43 : decode cX4_putInFront 43 = .ok (.iinc 2 1, 3) := by decide +kernel
theorem dX4_putInFront_46 : decode cX4_putInFront 46 = .ok (.goto (-44), 3) := by decide +kernel
theorem dX4_putInFront_49 : decode cX4_putInFront 49 = .ok (.return_, 1) := by decide +kernel
theorem dX4_shortest_0 : decode cX4_shortest 0 = .ok (.aload_n 0, 1) := by decide +kernel
theorem dX4_shortest_1 : decode cX4_shortest 1 = .ok (.getfield 15, 3) := by decide +kernel
theorem dX4_shortest_4 : decode cX4_shortest 4 = .ok (.iconst 0, 1) := by decide +kernel
theorem dX4_shortest_5 : decode cX4_shortest 5 = .ok (.iaload, 1) := by decide +kernel
theorem dX4_shortest_6 : decode cX4_shortest 6 = .ok (.istore_n 1, 1) := by decide +kernel
theorem dX4_shortest_7 : decode cX4_shortest 7 = .ok (.iconst 1, 1) := by decide +kernel
theorem dX4_shortest_8 : decode cX4_shortest 8 = .ok (.istore_n 2, 1) := by decide +kernel
theorem dX4_shortest_9 : decode cX4_shortest 9 = .ok (.iload_n 2, 1) := by decide +kernel
theorem dX4_shortest_10 : decode cX4_shortest 10 = .ok (.aload_n 0, 1) := by decide +kernel
theorem dX4_shortest_11 : decode cX4_shortest 11 = .ok (.getfield 38, 3) := by decide +kernel
theorem dX4_shortest_14 : decode cX4_shortest 14 = .ok (.if_icmp .ge 20, 3) := by decide +kernel
theorem dX4_shortest_17 : decode cX4_shortest 17 = .ok (.iload_n 1, 1) := by decide +kernel
theorem dX4_shortest_18 : decode cX4_shortest 18 = .ok (.aload_n 0, 1) := by decide +kernel
theorem dX4_shortest_19 : decode cX4_shortest 19 = .ok (.getfield 15, 3) := by decide +kernel
theorem dX4_shortest_22 : decode cX4_shortest 22 = .ok (.iload_n 2, 1) := by decide +kernel
theorem dX4_shortest_23 : decode cX4_shortest 23 = .ok (.iaload, 1) := by decide +kernel
theorem dX4_shortest_24 : decode cX4_shortest 24 = .ok (.invokestatic 88, 3) := by decide +kernel
theorem dX4_shortest_27 : decode cX4_shortest 27 = .ok (.istore_n 1, 1) := by decide +kernel
theorem dX4_shortest_28 : decode cX4_shortest 28 = .ok (.iinc 2 1, 3) := by decide +kernel
theorem dX4_shortest_31 : decode cX4_shortest 31 = .ok (.goto (-22), 3) := by decide +kernel
theorem dX4_shortest_34 : decode cX4_shortest 34 = .ok (.iload_n 1, 1) := by decide +kernel
theorem dX4_shortest_35 : decode cX4_shortest 35 = .ok (.ireturn, 1) := by decide +kernel
theorem dX4_isLastBaseShared_0 : decode cX4_isLastBaseShared 0 = .ok (.iconst 1, 1) := by decide +kernel
theorem dX4_isLastBaseShared_1 : decode cX4_isLastBaseShared 1 = .ok (.istore_n 1, 1) := by decide +kernel
theorem dX4_isLastBaseShared_2 : decode cX4_isLastBaseShared 2 = .ok (.iload_n 1, 1) := by decide +kernel
theorem dX4_isLastBaseShared_3 : decode cX4_isLastBaseShared 3 = .ok (.aload_n 0, 1) := by decide +kernel
theorem dX4_isLastBaseShared_4 : decode cX4_isLastBaseShared 4 = .ok (.getfield 38, 3) := by decide +kernel
theorem dX4_isLastBaseShared_7 : decode cX4_isLastBaseShared 7 = .ok (.if_icmp .ge 30, 3) := by decide +kernel
theorem dX4_isLastBaseShared_10 : decode cX4_isLastBaseShared 10 = .ok (.aload_n 0, 1) := by decide +kernel
theorem dX4_isLastBaseShared_11 : decode cX4_isLastBaseShared 11 = .ok (.getfield 9, 3) := by decide +kernel
theorem dX4_isLastBaseShared_14 : decode cX4_isLastBaseShared 14 = .ok (.iload_n 1, 1) := by decide +kernel
theorem dX4_isLastBaseShared_15 : decode cX4_isLastBaseShared 15 = .ok (.iaload, 1) := by decide +kernel
theorem dX4_isLastBaseShared_16 : decode cX4_isLastBaseShared 16 = .ok (.iconst 3, 1) := by decide +kernel
theorem dX4_isLastBaseShared_17 : decode cX4_isLastBaseShared 17 = .ok (.iand, 1) := by decide +kernel
theorem dX4_isLastBaseShared_18 : decode cX4_isLastBaseShared 18 = .ok (.aload_n 0, 1) := by decide +kernel
theorem dX4_isLastBaseShared_19 : decode cX4_isLastBaseShared 19 = .ok (.getfield 9, 3) := by decide +kernel
theorem dX4_isLastBaseShared_22 : decode cX4_isLastBaseShared 22 = .ok (.iconst 0, 1) := by decide +kernel
theorem dX4_isLastBaseShared_23 : decode cX4_isLastBaseShared 23 = .ok (.iaload, 1) := by decide +kernel
theorem dX4_isLastBaseShared_24 : decode cX4_isLastBaseShared 24 = .ok (.iconst 3, 1) := by decide +kernel
theorem dX4_isLastBaseShared_25 : decode cX4_isLastBaseShared 25 = .ok (.iand, 1) := by decide +kernel
theorem dX4_isLastBaseShared_26 : decode cX4_isLastBaseShared 26 = .ok (.if_icmp .eq 5, 3) := by decide +kernel
theorem dX4_isLastBaseShared_29 : decode cX4_isLastBaseShared 29 = .ok (.iconst 0, 1) := by decide +kernel
theorem dX4_isLastBaseShared_30 : decode cX4_isLastBaseShared 30 = .ok (.ireturn, 1) := by decide +kernel
theorem dX4_isLastBaseShared_31 : decode cX4_isLastBaseShared 31 = .ok (.iinc 1 1, 3) := by decide +kernel
theorem dX4_isLastBaseShared_34 : decode cX4_isLastBaseShared 34 = .ok (.goto (-32), 3) := by decide +kernel
theorem dX4_isLastBaseShared_37 : decode cX4_isLastBaseShared 37 = .ok (.iconst 1, 1) := by decide +kernel
theorem dX4_isLastBaseShared_38 : decode cX4_isLastBaseShared 38 = .ok (.ireturn, 1) := by decide +kernel
theorem dX4_isFirstBaseShared_0 : decode cX4_isFirstBaseShared 0 = .ok (.aload_n 0, 1) := by decide +kernel
theorem dX4_isFirstBaseShared_1 : decode cX4_isFirstBaseShared 1 = .ok (.getfield 9, 3) := by decide +kernel
theorem dX4_isFirstBaseShared_4 : decode cX4_isFirstBaseShared 4 = .ok (.iconst 0, 1) := by decide +kernel
theorem dX4_isFirstBaseShared_5 : decode cX4_isFirstBaseShared 5 = .ok (.iaload, 1) := by decide +kernel
theorem dX4_isFirstBaseShared_6 : decode cX4_isFirstBaseShared 6 = .ok (.i2l, 1) := by decide +kernel
theorem dX4_isFirstBaseShared_7 : decode cX4_isFirstBaseShared 7 = .ok (.aload_n 0, 1) := by decide +kernel
theorem dX4_isFirstBaseShared_8 : decode cX4_isFirstBaseShared 8 = .ok (.getfield 15, 3) := by decide +kernel
theorem dX4_isFirstBaseShared_11 : decode cX4_isFirstBaseShared 11 = .ok (.iconst 0, 1) := by decide +kernel
theorem dX4_isFirstBaseShared_12 : decode cX4_isFirstBaseShared 12 = .ok (.iaload, 1) := by decide +kernel
theorem dX4_isFirstBaseShared_13 : decode cX4_isFirstBaseShared 13 = .ok (.iconst 0, 1) := by decide +kernel
theorem dX4_isFirstBaseShared_14 : decode cX4_isFirstBaseShared 14 = .ok (.invokestatic 93, 3) := by decide +kernel
theorem dX4_isFirstBaseShared_17 : decode cX4_isFirstBaseShared 17 = .ok (.istore_n 1, 1) := by decide +kernel
theorem dX4_isFirstBaseShared_18 : decode cX4_isFirstBaseShared 18 = .ok (.iconst 1, 1) := by decide +kernel
theorem dX4_isFirstBaseShared_19 : decode cX4_isFirstBaseShared 19 = .ok (.istore_n 2, 1) := by decide +kernel
theorem dX4_isFirstBaseShared_20 : decode cX4_isFirstBaseShared 20 = .ok (.iload_n 2, 1) := by decide +kernel
theorem dX4_isFirstBaseShared_21 : decode cX4_isFirstBaseShared 21 = .ok (.aload_n 0, 1) := by decide +kernel
theorem dX4_isFirstBaseShared_22 : decode cX4_isFirstBaseShared 22 = .ok (.getfield 38, 3) := by decide +kernel
theorem dX4_isFirstBaseShared_25 : decode cX4_isFirstBaseShared 25 = .ok (.if_icmp .ge 32, 3) := by decide +kernel
theorem dX4_isFirstBaseShared_28 : decode cX4_isFirstBaseShared 28 = .ok (.aload_n 0, 1) := by decide +kernel
theorem dX4_isFirstBaseShared_29 : decode cX4_isFirstBaseShared 29 = .ok (.getfield 9, 3) := by decide +kernel
theorem dX4_isFirstBaseShared_32 : decode cX4_isFirstBaseShared 32 = .ok (.iload_n 2, 1) := by decide +kernel
theorem dX4_isFirstBaseShared_33 : decode cX4_isFirstBaseShared 33 = .ok (.iaload, 1) := by decide +kernel
theorem dX4_isFirstBaseShared_34 : decode cX4_isFirstBaseShared 34 = .ok (.i2l, 1) := by decide +kernel
theorem dX4_isFirstBaseShared_35 : decode cX4_isFirstBaseShared 35 = .ok (.aload_n 0, 1) := by decide +kernel
theorem dX4_isFirstBaseShared_36 : decode cX4_isFirstBaseShared 36 = .ok (.getfield 15, 3) := by decide +kernel
theorem dX4_isFirstBaseShared_39 : decode cX4_isFirstBaseShared 39 = .ok (.iload_n 2, 1) := by decide +kernel
theorem dX4_isFirstBaseShared_40 : decode cX4_isFirstBaseShared 40 = .ok (.iaload, 1) := by decide +kernel
theorem dX4_isFirstBaseShared_41 : decode cX4_isFirstBaseShared 41 = .ok (.iconst 0, 1) := by decide +kernel
theorem dX4_isFirstBaseShared_42 : decode cX4_isFirstBaseShared 42 = .ok (.invokestatic 93, 3) := by decide +kernel
theorem dX4_isFirstBaseShared_45 : decode cX4_isFirstBaseShared 45 = .ok (.iload_n 1, 1) := by decide +kernel
theorem dX4_isFirstBaseShared_46 : decode cX4_isFirstBaseShared 46 = .ok (.if_icmp .eq 5, 3) := by decide +kernel
theorem dX4_isFirstBaseShared_49 : decode cX4_isFirstBaseShared 49 = .ok (.iconst 0, 1) := by decide +kernel
theorem dX4_isFirstBaseShared_50 : decode cX4_isFirstBaseShared 50 = .ok (.ireturn, 1) := by decide +kernel
theorem dX4_isFirstBaseShared_51 : decode cX4_isFirstBaseShared 51 = .ok (.iinc 2 1, 3) := by decide +kernel
theorem dX4_isFirstBaseShared_54 : decode cX4_isFirstBaseShared 54 = .ok (.goto (-34), 3) := by decide +kernel
theorem dX4_isFirstBaseShared_57 : decode cX4_isFirstBaseShared 57 = .ok (.iconst 1, 1) := by decide +kernel
theorem dX4_isFirstBaseShared_58 : decode cX4_isFirstBaseShared 58 = .ok (.ireturn, 1) := by decide +kernel
theorem dX4_becomePart_0 : decode cX4_becomePart 0 = .ok (.aload_n 0, 1) := by decide +kernel
theorem dX4_becomePart_1 : decode cX4_becomePart 1 = .ok (.invokevirtual 97, 3) := by decide +kernel
theorem dX4_becomePart_4 : decode cX4_becomePart 4 = .ok (.aload_n 0, 1) := by decide +kernel
theorem dX4_becomePart_5 : decode cX4_becomePart 5 = .ok (.aload_n 1, 1) := by decide +kernel
theorem dX4_becomePart_6 : decode cX4_becomePart 6 = .ok (.getfield 31, 3) := by decide +kernel
theorem dX4_becomePart_9 : decode cX4_becomePart 9 = .ok (.putfield 31, 3) := by decide +kernel
theorem dX4_becomePart_12 : decode cX4_becomePart 12 = .ok (.aload_n 0, 1) := by decide +kernel
theorem dX4_becomePart_13 : decode cX4_becomePart 13 = .ok (.aload_n 1, 1) := by decide +kernel
theorem dX4_becomePart_14 : decode cX4_becomePart 14 = .ok (.getfield 35, 3) := by decide +kernel
theorem dX4_becomePart_17 : decode cX4_becomePart 17 = .ok (.putfield 35, 3) := by decide +kernel
theorem dX4_becomePart_20 : decode cX4_becomePart 20 = .ok (.aload_n 0, 1) := by decide +kernel
theorem dX4_becomePart_21 : decode cX4_becomePart 21 = .ok (.aload_n 1, 1) := by decide +kernel
theorem dX4_becomePart_22 : decode cX4_becomePart 22 = .ok (.iconst 0, 1) := by decide +kernel
theorem dX4_becomePart_23 : decode cX4_becomePart 23 = .ok (.invokevirtual 100, 3) := by decide +kernel
theorem dX4_becomePart_26 : decode cX4_becomePart 26 = .ok (.aload_n 0, 1) := by decide +kernel
theorem dX4_becomePart_27 : decode cX4_becomePart 27 = .ok (.aload_n 1, 1) := by decide +kernel
theorem dX4_becomePart_28 : decode cX4_becomePart 28 = .ok (.iload_n 2, 1) := by decide +kernel
theorem dX4_becomePart_29 : decode cX4_becomePart 29 = .ok (.invokevirtual 100, 3) := by decide +kernel
theorem dX4_becomePart_32 : decode cX4_becomePart 32 = .ok (.iconst 0, 1) := by decide +kernel
theorem dX4_becomePart_33 : decode cX4_becomePart 33 = .ok (.istore_n 3, 1) := by decide +kernel
theorem dX4_becomePart_34 : decode cX4_becomePart 34 = .ok (.iload_n 3, 1) := by decide +kernel
theorem dX4_becomePart_35 : decode cX4_becomePart 35 = .ok (.iconst 4, 1) := by decide +kernel
theorem dX4_becomePart_36 : decode cX4_becomePart 36 = .ok (.if_icmp .ge 44, 3) := by decide +kernel
theorem dX4_becomePart_39 : decode cX4_becomePart 39 = .ok (.aload_n 1, 1) := by decide +kernel
theorem dX4_becomePart_40 : decode cX4_becomePart 40 = .ok (.getfield 21, 3) := by decide +kernel
theorem dX4_becomePart_43 : decode cX4_becomePart 43 = .ok (.iload_n 3, 1) := by decide +kernel
theorem dX4_becomePart_44 : decode cX4_becomePart 44 = .ok (.iaload, 1) := by decide +kernel
theorem dX4_becomePart_45 : decode cX4_becomePart 45 = .ok (.istore 4, 2) := by decide +kernel
theorem dX4_becomePart_47 : decode cX4_becomePart 47 = .ok (.aload_n 0, 1) := by decide +kernel
theorem dX4_becomePart_48 : decode cX4_becomePart 48 = .ok (.getfield 21, 3) := by decide +kernel
theorem dX4_becomePart_51 : decode cX4_becomePart 51 = .ok (.iload_n 3, 1) := by decide +kernel
theorem dX4_becomePart_52 : decode cX4_becomePart 52 = .ok (.iload 4, 2) := by decide +kernel
theorem dX4_becomePart_54 : decode cX4_becomePart 54 = .ok (.iconst (-1), 1) := by decide +kernel
theorem dX4_becomePart_55 : decode cX4_becomePart 55 = .ok (.if_icmp .ne 7, 3) := by decide +kernel
theorem dX4_becomePart_58 : decode cX4_becomePart 58 = .ok (.iconst (-1), 1) := by decide +kernel
theorem dX4_becomePart_59 : decode cX4_becomePart 59 = .ok (.goto 14, 3) := by decide +kernel
theorem dX4_becomePart_62 : decode cX4_becomePart 62 = .ok (.iload 4, 2) := by decide +kernel
theorem dX4_becomePart_64 : decode cX4_becomePart 64 = .ok (.iload_n 2, 1) := by decide +kernel
theorem dX4_becomePart_65 : decode cX4_becomePart 65 = .ok (.if_icmp .ne 7, 3) := by decide +kernel
theorem dX4_becomePart_68 : decode cX4_becomePart 68 = .ok (.iconst 1, 1) := by decide +kernel
theorem dX4_becomePart_69 : decode cX4_becomePart 69 = .ok (.goto 4, 3) := by decide +kernel
theorem dX4_becomePart_72 : decode cX4_becomePart 72 = .ok (.iconst 0, 1) := by decide +kernel
theorem dX4_becomePart_73 : decode cX4_becomePart 73 = .ok (.iastore, 1) := by decide +kernel
theorem dX4_becomePart_74 : decode cX4_becomePart 74 = .ok (.iinc 3 1, 3) := by decide +kernel
theorem dX4_becomePart_77 : decode cX4_becomePart 77 = .ok (.goto (-43), 3) := by decide +kernel
theorem dX4_becomePart_80 : decode cX4_becomePart 80 = .ok (.iconst 0, 1) := by decide +kernel
theorem dX4_becomePart_81 : decode cX4_becomePart 81 = .ok (.istore_n 3, 1) := by decide +kernel
theorem dX4_becomePart_82 : decode cX4_becomePart 82 = .ok (.iload_n 3, 1) := by decide +kernel
theorem dX4_becomePart_83 : decode cX4_becomePart 83 = .ok (.iconst 2, 1) := by decide +kernel
theorem dX4_becomePart_84 : decode cX4_becomePart 84 = .ok (.if_icmp .ge 85, 3) := by decide +kernel
theorem dX4_becomePart_87 : decode cX4_becomePart 87 = .ok (.aload_n 0, 1) := by decide +kernel
theorem dX4_becomePart_88 : decode cX4_becomePart 88 = .ok (.getfield 24, 3) := by decide +kernel
theorem dX4_becomePart_91 : decode cX4_becomePart 91 = .ok (.iload_n 3, 1) := by decide +kernel
theorem dX4_becomePart_92 : decode cX4_becomePart 92 = .ok (.aload_n 1, 1) := by decide +kernel
theorem dX4_becomePart_93 : decode cX4_becomePart 93 = .ok (.getfield 24, 3) := by decide +kernel
theorem dX4_becomePart_96 : decode cX4_becomePart 96 = .ok (.iload_n 3, 1) := by decide +kernel
theorem dX4_becomePart_97 : decode cX4_becomePart 97 = .ok (.baload, 1) := by decide +kernel
theorem dX4_becomePart_98 : decode cX4_becomePart 98 = .ok (.bastore, 1) := by decide +kernel
theorem dX4_becomePart_99 : decode cX4_becomePart 99 = .ok (.bipush 10, 2) := by decide +kernel
theorem dX4_becomePart_101 : decode cX4_becomePart 101 = .ok (.iload_n 3, 1) := by decide +kernel
theorem dX4_becomePart_102 : decode cX4_becomePart 102 = .ok (.imul, 1) := by decide +kernel
theorem dX4_becomePart_103 : decode cX4_becomePart 103 = .ok (.istore 4, 2) := by decide +kernel
theorem dX4_becomePart_105 : decode cX4_becomePart 105 = .ok (.aload_n 0, 1) := by decide +kernel
theorem dX4_becomePart_106 : decode cX4_becomePart 106 = .ok (.getfield 28, 3) := by decide +kernel
theorem dX4_becomePart_109 : decode cX4_becomePart 109 = .ok (.iload 4, 2) := by decide +kernel
theorem dX4_becomePart_111 : decode cX4_becomePart 111 = .ok (.aload_n 1, 1) := by decide +kernel
theorem dX4_becomePart_112 : decode cX4_becomePart 112 = .ok (.getfield 28, 3) := by decide +kernel
theorem dX4_becomePart_115 : decode cX4_becomePart 115 = .ok (.iload 4, 2) := by decide +kernel
theorem dX4_becomePart_117 : decode cX4_becomePart 117 = .ok (.iaload, 1) := by decide +kernel
theorem dX4_becomePart_118 : decode cX4_becomePart 118 = .ok (.iastore, 1) := by decide +kernel
theorem dX4_becomePart_119 : decode cX4_becomePart 119 = .ok (.aload_n 0, 1) := by decide +kernel
theorem dX4_becomePart_120 : decode cX4_becomePart 120 = .ok (.getfield 28, 3) := by decide +kernel
theorem dX4_becomePart_123 : decode cX4_becomePart 123 = .ok (.iload 4, 2) := by decide +kernel
theorem dX4_becomePart_125 : decode cX4_becomePart 125 = .ok (.iconst 1, 1) := by decide +kernel
theorem dX4_becomePart_126 : decode cX4_becomePart 126 = .ok (.iadd, 1) := by decide +kernel
theorem dX4_becomePart_127 : decode cX4_becomePart 127 = .ok (.aload_n 1, 1) := by decide +kernel
theorem dX4_becomePart_128 : decode cX4_becomePart 128 = .ok (.getfield 28, 3) := by decide +kernel
theorem dX4_becomePart_131 : decode cX4_becomePart 131 = .ok (.iload 4, 2) := by decide +kernel
theorem dX4_becomePart_133 : decode cX4_becomePart 133 = .ok (.iconst 0, 1) := by decide +kernel
theorem dX4_becomePart_134 : decode cX4_becomePart 134 = .ok (.iload_n 2, 1) := by decide +kernel
theorem dX4_becomePart_135 : decode cX4_becomePart 135 = .ok (.invokestatic 104, 3) := by decide +kernel
theorem dX4_becomePart_138 : decode cX4_becomePart 138 = .ok (.iadd, 1) := by decide +kernel
theorem dX4_becomePart_139 : decode cX4_becomePart 139 = .ok (.iaload, 1) := by decide +kernel
theorem dX4_becomePart_140 : decode cX4_becomePart 140 = .ok (.iastore, 1) := by decide +kernel
theorem dX4_becomePart_141 : decode cX4_becomePart 141 = .ok (.aload_n 0, 1) := by decide +kernel
theorem dX4_becomePart_142 : decode cX4_becomePart 142 = .ok (.getfield 28, 3) := by decide +kernel
theorem dX4_becomePart_145 : decode cX4_becomePart 145 = .ok (.iload 4, 2) := by decide +kernel
theorem dX4_becomePart_147 : decode cX4_becomePart 147 = .ok (.iconst 2, 1) := by decide +kernel
theorem dX4_becomePart_148 : decode cX4_becomePart 148 = .ok (.iadd, 1) := by decide +kernel
theorem dX4_becomePart_149 : decode cX4_becomePart 149 = .ok (.aload_n 1, 1) := by decide +kernel
theorem dX4_becomePart_150 : decode cX4_becomePart 150 = .ok (.getfield 28, 3) := by decide +kernel
theorem dX4_becomePart_153 : decode cX4_becomePart 153 = .ok (.iload 4, 2) := by decide +kernel
theorem dX4_becomePart_155 : decode cX4_becomePart 155 = .ok (.iload_n 2, 1) := by decide +kernel
theorem dX4_becomePart_156 : decode cX4_becomePart 156 = .ok (.iload_n 2, 1) := by decide +kernel
theorem dX4_becomePart_157 : decode cX4_becomePart 157 = .ok (.invokestatic 104, 3) := by decide +kernel
theorem dX4_becomePart_160 : decode cX4_becomePart 160 = .ok (.iadd, 1) := by decide +kernel
theorem dX4_becomePart_161 : decode cX4_becomePart 161 = .ok (.iaload, 1) := by decide +kernel
theorem dX4_becomePart_162 : decode cX4_becomePart 162 = .ok (.iastore, 1) := by decide +kernel
theorem dX4_becomePart_163 : decode cX4_becomePart 163 = .ok (.iinc 3 1, 3) := by decide +kernel
theorem dX4_becomePart_166 : decode cX4_becomePart 166 = .ok (.goto (-84), 3) := by decide +kernel
theorem dX4_becomePart_169 : decode cX4_becomePart 169 = .ok (.return_, 1) := by decide +kernel
theorem dX4_appendAlleleOf_0 : decode cX4_appendAlleleOf 0 = .ok (.aload_n 0, 1) := by decide +kernel
theorem dX4_appendAlleleOf_1 : decode cX4_appendAlleleOf 1 = .ok (.aload_n 1, 1) := by decide +kernel
theorem dX4_appendAlleleOf_2 : decode cX4_appendAlleleOf 2 = .ok (.getfield 9, 3) := by decide +kernel
theorem dX4_appendAlleleOf_5 : decode cX4_appendAlleleOf 5 = .ok (.iload_n 2, 1) := by decide +kernel
theorem dX4_appendAlleleOf_6 : decode cX4_appendAlleleOf 6 = .ok (.iaload, 1) := by decide +kernel
theorem dX4_appendAlleleOf_7 : decode cX4_appendAlleleOf 7 = .ok (.aload_n 1, 1) := by decide +kernel
theorem dX4_appendAlleleOf_8 : decode cX4_appendAlleleOf 8 = .ok (.getfield 15, 3) := by decide +kernel
theorem dX4_appendAlleleOf_11 : decode cX4_appendAlleleOf 11 = .ok (.iload_n 2, 1) := by decide +kernel
theorem dX4_appendAlleleOf_12 : decode cX4_appendAlleleOf 12 = .ok (.iaload, 1) := by decide +kernel
theorem dX4_appendAlleleOf_13 : decode cX4_appendAlleleOf 13 = .ok (.invokevirtual 107, 3) := by decide +kernel
theorem dX4_appendAlleleOf_16 : decode cX4_appendAlleleOf 16 = .ok (.aload_n 0, 1) := by decide +kernel
theorem dX4_appendAlleleOf_17 : decode cX4_appendAlleleOf 17 = .ok (.getfield 18, 3) := by decide +kernel
theorem dX4_appendAlleleOf_20 : decode cX4_appendAlleleOf 20 = .ok (.aload_n 0, 1) := by decide +kernel
theorem dX4_appendAlleleOf_21 : decode cX4_appendAlleleOf 21 = .ok (.getfield 38, 3) := by decide +kernel
theorem dX4_appendAlleleOf_24 : decode cX4_appendAlleleOf 24 = .ok (.iconst 1, 1) := by decide +kernel
theorem dX4_appendAlleleOf_25 : decode cX4_appendAlleleOf 25 = .ok (.isub, 1) := by decide +kernel
theorem dX4_appendAlleleOf_26 : decode cX4_appendAlleleOf 26 = .ok (.aload_n 1, 1) := by decide +kernel
theorem dX4_appendAlleleOf_27 : decode cX4_appendAlleleOf 27 = .ok (.getfield 18, 3) := by decide +kernel
theorem dX4_appendAlleleOf_30 : decode cX4_appendAlleleOf 30 = .ok (.iload_n 2, 1) := by decide +kernel
theorem dX4_appendAlleleOf_31 : decode cX4_appendAlleleOf 31 = .ok (.iaload, 1) := by decide +kernel
theorem dX4_appendAlleleOf_32 : decode cX4_appendAlleleOf 32 = .ok (.iastore, 1) := by decide +kernel
theorem dX4_appendAlleleOf_33 : decode cX4_appendAlleleOf 33 = .ok (.return_, 1) := by decide +kernel
theorem dX4_lengthenLike_0 : decode cX4_lengthenLike 0 = .ok (.aload_n 1, 1) := by decide +kernel
theorem dX4_lengthenLike_1 : decode cX4_lengthenLike 1 = .ok (.getfield 15, 3) := by decide +kernel
theorem dX4_lengthenLike_4 : decode cX4_lengthenLike 4 = .ok (.iconst 0, 1) := by decide +kernel
theorem dX4_lengthenLike_5 : decode cX4_lengthenLike 5 = .ok (.iaload, 1) := by decide +kernel
theorem dX4_lengthenLike_6 : decode cX4_lengthenLike 6 = .ok (.aload_n 0, 1) := by decide +kernel
theorem dX4_lengthenLike_7 : decode cX4_lengthenLike 7 = .ok (.getfield 15, 3) := by decide +kernel
theorem dX4_lengthenLike_10 : decode cX4_lengthenLike 10 = .ok (.iconst 0, 1) := by decide +kernel
theorem dX4_lengthenLike_11 : decode cX4_lengthenLike 11 = .ok (.iaload, 1) := by decide +kernel
theorem dX4_lengthenLike_12 : decode cX4_lengthenLike 12 = .ok (.isub, 1) := by decide +kernel
theorem dX4_lengthenLike_13 : decode cX4_lengthenLike 13 = .ok (.istore_n 2, 1) := by decide +kernel
theorem dX4_lengthenLike_14 : decode cX4_lengthenLike 14 = .ok (.iload_n 2, 1) := by decide +kernel
theorem dX4_lengthenLike_15 : decode cX4_lengthenLike 15 = .ok (.ifCond .gt 4, 3) := by decide +kernel
theorem dX4_lengthenLike_18 : decode cX4_lengthenLike 18 = .ok (.return_, 1) := by decide +kernel
theorem dX4_lengthenLike_19 : decode cX4_lengthenLike 19 = .ok (.aload_n 1, 1) := by decide +kernel
theorem dX4_lengthenLike_20 : decode cX4_lengthenLike 20 = .ok (.getfield 9, 3) := by decide +kernel
theorem dX4_lengthenLike_23 : decode cX4_lengthenLike 23 = .ok (.iconst 0, 1) := by decide +kernel
theorem dX4_lengthenLike_24 : decode cX4_lengthenLike 24 = .ok (.iaload, 1) := by decide +kernel
theorem dX4_lengthenLike_25 : decode cX4_lengthenLike 25 = .ok (.iload_n 2, 1) := by decide +kernel
theorem dX4_lengthenLike_26 : decode cX4_lengthenLike 26 = .ok (.invokestatic 84, 3) := by decide +kernel
theorem dX4_lengthenLike_29 : decode cX4_lengthenLike 29 = .ok (.iand, 1) := by decide +kernel
theorem dX4_lengthenLike_30 : decode cX4_lengthenLike 30 = .ok (.istore_n 3, 1) := by decide +kernel
theorem dX4_lengthenLike_31 : decode cX4_lengthenLike 31 = .ok (.iconst 0, 1) := by decide +kernel
theorem dX4_lengthenLike_32 : decode cX4_lengthenLike 32 = .ok (.istore 4, 2) := by decide +kernel
theorem dX4_lengthenLike_34 : decode cX4_lengthenLike 34 = .ok (.iload 4, 2) := by decide +kernel
theorem dX4_lengthenLike_36 : decode cX4_lengthenLike 36 = .ok (.aload_n 0, 1) := by decide +kernel
theorem dX4_lengthenLike_37 : decode cX4_lengthenLike 37 = .ok (.getfield 38, 3) := by decide +kernel
theorem dX4_lengthenLike_40 : decode cX4_lengthenLike 40 = .ok (.if_icmp .ge 40, 3) := by decide +kernel
theorem dX4_lengthenLike_43 : decode cX4_lengthenLike 43 = .ok (.aload_n 0, 1) := by decide +kernel
theorem dX4_lengthenLike_44 : decode cX4_lengthenLike 44 = .ok (.getfield 9, 3) := by decide +kernel
theorem dX4_lengthenLike_47 : decode cX4_lengthenLike 47 = .ok (.iload 4, 2) := by decide +kernel
theorem dX4_lengthenLike_49 : decode cX4_lengthenLike 49 = .ok (.aload_n 0, 1) := by decide +kernel
theorem dX4_lengthenLike_50 : decode cX4_lengthenLike 50 = .ok (.getfield 9, 3) := by decide +kernel
theorem dX4_lengthenLike_53 : decode cX4_lengthenLike 53 = .ok (.iload 4, 2) := by decide +kernel
theorem dX4_lengthenLike_55 : decode cX4_lengthenLike 55 = .ok (.iaload, 1) := by decide +kernel
theorem dX4_lengthenLike_56 : decode cX4_lengthenLike 56 = .ok (.iconst 2, 1) := by decide +kernel
theorem dX4_lengthenLike_57 : decode cX4_lengthenLike 57 = .ok (.iload_n 2, 1) := by decide +kernel
theorem dX4_lengthenLike_58 : decode cX4_lengthenLike 58 = .ok (.imul, 1) := by decide +kernel
theorem dX4_lengthenLike_59 : decode cX4_lengthenLike 59 = .ok (.ishl, 1) := by decide +kernel
theorem dX4_lengthenLike_60 : decode cX4_lengthenLike 60 = .ok (.iload_n 3, 1) := by decide +kernel
theorem dX4_lengthenLike_61 : decode cX4_lengthenLike 61 = .ok (.ior, 1) := by decide +kernel
theorem dX4_lengthenLike_62 : decode cX4_lengthenLike 62 = .ok (.iastore, 1) := by decide +kernel
theorem dX4_lengthenLike_63 : decode cX4_lengthenLike 63 = .ok (.aload_n 0, 1) := by decide +kernel
theorem dX4_lengthenLike_64 : decode cX4_lengthenLike 64 = .ok (.getfield 15, 3) := by decide +kernel
theorem dX4_lengthenLike_67 : decode cX4_lengthenLike 67 = .ok (.iload 4, 2) := by decide +kernel
theorem dX4_lengthenLike_69 : decode cX4_lengthenLike 69 = .ok (.dup2, 1) := by decide +kernel
theorem dX4_lengthenLike_70 : decode cX4_lengthenLike 70 = .ok (.iaload, 1) := by decide +kernel
theorem dX4_lengthenLike_71 : decode cX4_lengthenLike 71 = .ok (.iload_n 2, 1) := by decide +kernel
theorem dX4_lengthenLike_72 : decode cX4_lengthenLike 72 = .ok (.iadd, 1) := by decide +kernel
theorem dX4_lengthenLike_73 : decode cX4_lengthenLike 73 = .ok (.iastore, 1) := by decide +kernel
theorem dX4_lengthenLike_74 : decode cX4_lengthenLike 74 = .ok (.iinc 4 1, 3) := by decide +kernel
theorem dX4_lengthenLike_77 : decode cX4_lengthenLike 77 = .ok (.goto (-43), 3) := by decide +kernel
theorem dX4_lengthenLike_80 : decode cX4_lengthenLike 80 = .ok (.return_, 1) := by decide +kernel
theorem dX4_hasTooLongAllele_0 : decode cX4_hasTooLongAllele 0 = .ok (.iconst 0, 1) := by decide +kernel
theorem dX4_hasTooLongAllele_1 : decode cX4_hasTooLongAllele 1 = .ok (.istore_n 1, 1) := by decide +kernel
theorem dX4_hasTooLongAllele_2 : decode cX4_hasTooLongAllele 2 = .ok (.iload_n 1, 1) := by decide +kernel
theorem dX4_hasTooLongAllele_3 : decode cX4_hasTooLongAllele 3 = .ok (.aload_n 0, 1) := by decide +kernel
theorem dX4_hasTooLongAllele_4 : decode cX4_hasTooLongAllele 4 = .ok (.getfield 38, 3) := by decide +kernel
theorem dX4_hasTooLongAllele_7 : decode cX4_hasTooLongAllele 7 = .ok (.if_icmp .ge 22, 3) := by decide +kernel
theorem dX4_hasTooLongAllele_10 : decode cX4_hasTooLongAllele 10 = .ok (.aload_n 0, 1) := by decide +kernel
theorem dX4_hasTooLongAllele_11 : decode cX4_hasTooLongAllele 11 = .ok (.getfield 15, 3) := by decide +kernel
theorem dX4_hasTooLongAllele_14 : decode cX4_hasTooLongAllele 14 = .ok (.iload_n 1, 1) := by decide +kernel
theorem dX4_hasTooLongAllele_15 : decode cX4_hasTooLongAllele 15 = .ok (.iaload, 1) := by decide +kernel
theorem dX4_hasTooLongAllele_16 : decode cX4_hasTooLongAllele 16 = .ok (.bipush 8, 2) := by decide +kernel
theorem dX4_hasTooLongAllele_18 : decode cX4_hasTooLongAllele 18 = .ok (.if_icmp .le 5, 3) := by decide +kernel
theorem dX4_hasTooLongAllele_21 : decode cX4_hasTooLongAllele 21 = .ok (.iconst 1, 1) := by decide +kernel
theorem dX4_hasTooLongAllele_22 : decode cX4_hasTooLongAllele 22 = .ok (.ireturn, 1) := by decide +kernel
theorem dX4_hasTooLongAllele_23 : decode cX4_hasTooLongAllele 23 = .ok (.iinc 1 1, 3) := by decide +kernel
theorem dX4_hasTooLongAllele_26 : decode cX4_hasTooLongAllele 26 = .ok (.goto (-24), 3) := by decide +kernel
theorem dX4_hasTooLongAllele_29 : decode cX4_hasTooLongAllele 29 = .ok (.iconst 0, 1) := by decide +kernel
theorem dX4_hasTooLongAllele_30 : decode cX4_hasTooLongAllele 30 = .ok (.ireturn, 1) := by decide +kernel
end
section
/-! The memory of a walk: which addresses are ours, the kind of each (0 to 6 an object of that class of vwCl, 7 int[], 8 boolean[], 9 Variant[], 10 long[], 11 double[]),
the lengths, what int and reference places hold (fields by their number, arrays by their index), longs, doubles, and the next address (0: not known). -/
abbrev Mem : Type := List Nat × (Nat → Nat) × (Nat → Nat) × (Nat → Nat → Int32) × (Nat → Nat → Option Nat) × (Nat → Nat → Int64) × (Nat → Nat → UInt64) × Nat
/-- what is fixed over a run: class numbers and slots, the array classes by kind, the address of LETTERS, the script's address, length and ints -/
abbrev GG : Type := va_G × (Nat → ClassId) × Nat × Nat × Nat × (Nat → Int32)
def mL (S : Mem) : List Nat := S.1
def mK (S : Mem) : Nat → Nat := S.2.1
def mN (S : Mem) : Nat → Nat := S.2.2.1
def mI (S : Mem) : Nat → Nat → Int32 := S.2.2.2.1
def mR (S : Mem) : Nat → Nat → Option Nat := S.2.2.2.2.1
def mJ (S : Mem) : Nat → Nat → Int64 := S.2.2.2.2.2.1
def mD (S : Mem) : Nat → Nat → UInt64 := S.2.2.2.2.2.2.1
def mX (S : Mem) : Nat := S.2.2.2.2.2.2.2
def up2 {α : Type} (f : Nat → Nat → α) (a k : Nat) (v : α) : Nat → Nat → α := fun b j => if b = a ∧ j = k then v else f b j
def sI (S : Mem) (a k : Nat) (v : Int32) : Mem := (mL S, mK S, mN S, up2 (mI S) a k v, mR S, mJ S, mD S, mX S)
def sR (S : Mem) (a k : Nat) (v : Option Nat) : Mem := (mL S, mK S, mN S, mI S, up2 (mR S) a k v, mJ S, mD S, mX S)
def sJ (S : Mem) (a k : Nat) (v : Int64) : Mem := (mL S, mK S, mN S, mI S, mR S, up2 (mJ S) a k v, mD S, mX S)
def sD (S : Mem) (a k : Nat) (v : UInt64) : Mem := (mL S, mK S, mN S, mI S, mR S, mJ S, up2 (mD S) a k v, mX S)
/-- a run of int places laid anew -/
def sF (S : Mem) (a : Nat) (f : Nat → Int32) : Mem := (mL S, mK S, mN S, va_up (mI S) a f, mR S, mJ S, mD S, mX S)
/-- the next address is forgotten -/
def sX (S : Mem) : Mem := (mL S, mK S, mN S, mI S, mR S, mJ S, mD S, 0)
/-- a new thing of kind c, of n places, at the next address -/
def nw (S : Mem) (c n : Nat) : Mem := (mL S ++ [mX S], va_up (mK S) (mX S) c, va_up (mN S) (mX S) n, va_up (mI S) (mX S) (fun _ => 0), va_up (mR S) (mX S) (fun _ => none), va_up (mJ S) (mX S) (fun _ => 0), va_up (mD S) (mX S) (fun _ => 0), mX S + 1)
/-- which fields of class c hold references -/
def rfT (c k : Nat) : Bool := ((([[true, false, false], [true, true, true, true], [true, false], [true, false], [false, false, false, true, true, true, true, true, true], [true, true, true, false, true, true, true, true], [false, true, false, false, false, true, true, false, true, false, true]] : List (List Bool)).getD c []).getD k false)
/-- how many fields class c has -/
def nfT (c : Nat) : Nat := ([3, 4, 2, 2, 9, 8, 11] : List Nat).getD c 0
def fvM (S : Mem) (a c k : Nat) : Value := if rfT c k = true then va_rf (mR S a k) else .int (mI S a k)
def fsM (S : Mem) (a c : Nat) : List Value := (List.range (nfT c)).map (fvM S a c)
def mCell (g : GG) (S : Mem) (a : Nat) : va_E :=
  if mK S a < 7 then .inr (mK S a, fsM S a (mK S a))
  else if mK S a = 7 then .inl (g.2.1 7, mN S a, .inl (mI S a))
  else if mK S a = 8 then .inl (g.2.1 8, mN S a, .inl (mI S a))
  else if mK S a = 9 then .inl (g.2.1 9, mN S a, .inr (.inr (.inr (.inr (mR S a)))))
  else if mK S a = 10 then .inl (g.2.1 10, mN S a, .inr (.inl (mJ S a)))
  else .inl (g.2.1 11, mN S a, .inr (.inr (.inr (.inl (mD S a)))))
def mW (g : GG) (S : Mem) : va_W := va_pl (mL S) (mCell g S)
def tysG (g : GG) : List (ClassId × FieldType) := [(g.2.1 7, .int), (g.2.1 8, .boolean), (g.2.1 9, .object RX4), (g.2.1 10, .long), (g.2.1 11, .double)]
/-- the thing at a is ours, and of kind c -/
def ok (S : Mem) (a c : Nat) : Prop := a ∈ mL S ∧ mK S a = c
/-- the next address: not known (0), or what the method has made (k cells since s) behind what was there -/
def xk (f : Bool) (s : State) (k : Nat) (S : Mem) : Prop := (f = false → mX S = 0) ∧ (f = true → mX S = s.heap.size + k ∧ (k = 0 ∨ mX S - 1 ∈ mL S))
/-- the world in the heap -/
def okW (g : GG) (A : Nat → Prop) (S : Mem) (H : Heap) (s : State) (k : Nat) (f : Bool) : Prop := va_P g.1 vwCl (mW g S) H ∧ va_D A (mW g S) ∧ xk f s k S

theorem mW_get (g : GG) {S : Mem} {a : Nat} (h : a ∈ mL S) : ∃ k : Nat, (mW g S)[k]? = some (a, mCell g S a) := by
  obtain ⟨k, hk⟩ := va_pl_get (X := []) (f := mCell g S) h
  exact ⟨k, hk⟩
theorem mW_set {g : GG} {A : Nat → Prop} {S S' : Mem} {a k : Nat} {e : va_E} (hD : va_D A (mW g S)) (h : a ∈ mL S) (hk : (mW g S)[k]? = some (a, mCell g S a)) (hL : mL S' = mL S) (hc : ∀ b, va_up (mCell g S) a e b = mCell g S' b) : (mW g S).set k (a, e) = mW g S' := by
  have h1 := va_pl_set (X := []) (f := mCell g S) (e := e) hD h hk
  unfold mW at h1 ⊢
  rw [List.nil_append, List.nil_append] at h1
  rw [h1, hL]
  exact va_pl_congr hc
theorem mCell_o {g : GG} {S : Mem} {a c : Nat} (h : mK S a = c) (hc : c < 7) : mCell g S a = .inr (c, fsM S a c) := by
  unfold mCell
  rw [if_pos (by rw [h]; exact hc), h]
theorem mCell_7 {g : GG} {S : Mem} {a : Nat} (h : mK S a = 7) : mCell g S a = .inl (g.2.1 7, mN S a, .inl (mI S a)) := by simp [mCell, h]
theorem mCell_8 {g : GG} {S : Mem} {a : Nat} (h : mK S a = 8) : mCell g S a = .inl (g.2.1 8, mN S a, .inl (mI S a)) := by simp [mCell, h]
theorem mCell_9 {g : GG} {S : Mem} {a : Nat} (h : mK S a = 9) : mCell g S a = .inl (g.2.1 9, mN S a, .inr (.inr (.inr (.inr (mR S a))))) := by simp [mCell, h]
theorem mCell_10 {g : GG} {S : Mem} {a : Nat} (h : mK S a = 10) : mCell g S a = .inl (g.2.1 10, mN S a, .inr (.inl (mJ S a))) := by simp [mCell, h]
theorem mCell_11 {g : GG} {S : Mem} {a : Nat} (h : mK S a = 11) : mCell g S a = .inl (g.2.1 11, mN S a, .inr (.inr (.inr (.inl (mD S a))))) := by simp [mCell, h]
theorem fsM_get {S : Mem} {a c k : Nat} (h : k < nfT c) : (fsM S a c)[k]? = some (fvM S a c k) := by
  simp [fsM, h]
theorem fsM_len (S : Mem) (a c : Nat) : (fsM S a c).length = nfT c := by simp [fsM]
theorem fsM_set {S S' : Mem} {a c k : Nat} {v : Value} (h0 : fvM S' a c k = v) (h1 : ∀ j, j ≠ k → fvM S' a c j = fvM S a c j) : (fsM S a c).set k v = fsM S' a c := by
  apply List.ext_getElem?
  intro j
  by_cases hj : j = k
  · subst hj
    by_cases hl : j < nfT c
    · rw [List.getElem?_set_self (by rw [fsM_len]; exact hl), fsM_get hl, h0]
    · rw [List.getElem?_eq_none (by rw [List.length_set, fsM_len]; omega), List.getElem?_eq_none (by rw [fsM_len]; omega)]
  · rw [List.getElem?_set_ne (Ne.symm hj)]
    by_cases hl : j < nfT c
    · rw [fsM_get hl, fsM_get hl, h1 j hj]
    · rw [List.getElem?_eq_none (by rw [fsM_len]; omega), List.getElem?_eq_none (by rw [fsM_len]; omega)]
/-- cells elsewhere -/
theorem mCell_eq {g : GG} {S S' : Mem} {b : Nat} (hK : mK S' b = mK S b) (hN : mN S' b = mN S b) (hI : mI S' b = mI S b) (hR : mR S' b = mR S b) (hJ : mJ S' b = mJ S b) (hD : mD S' b = mD S b) : mCell g S' b = mCell g S b := by
  have hf : ∀ c, fsM S' b c = fsM S b c := by
    intro c
    unfold fsM
    apply List.map_congr_left
    intro k _
    simp only [fvM, hI, hR]
  simp only [mCell, hK, hN, hI, hR, hJ, hD, hf]
theorem up2_self {α : Type} (f : Nat → Nat → α) (a k : Nat) (v : α) : up2 f a k v a k = v := by simp [up2]
theorem up2_row {α : Type} (f : Nat → Nat → α) {a b k : Nat} (v : α) (h : b ≠ a) : up2 f a k v b = f b := by
  funext j
  simp [up2, h]
theorem up2_at {α : Type} (f : Nat → Nat → α) (a k : Nat) (v : α) : up2 f a k v a = va_up (f a) k v := by
  funext j
  by_cases h : j = k <;> simp [up2, va_up, h]
theorem up2_ne {α : Type} (f : Nat → Nat → α) {a b k j : Nat} (v : α) (h : ¬ (b = a ∧ j = k)) : up2 f a k v b j = f b j := by simp [up2, h]
theorem upd_up (f : Nat → Int32) (k : Nat) (x : Int32) : upd f k x = va_up f k x := rfl
end
section
/-! The judgement of a walk: from pc, with these locals, this operand stack, this memory, the machine comes to an end of which Q holds. -/
/-- a method: name, bytes, locals, answer, room (its cells and slots are what it may make), the rows of its exception table -/
abbrev MU : Type := MethodName × ByteArray × Nat × Option FieldType × Room × List (Nat × Nat × Nat × Nat) × Bool
abbrev uY (u : MU) : MethodName := u.1
abbrev uC (u : MU) : ByteArray := u.2.1
abbrev uN (u : MU) : Nat := u.2.2.1
abbrev uT (u : MU) : Option FieldType := u.2.2.2.1
abbrev uR (u : MU) : Room := u.2.2.2.2.1
abbrev uH (u : MU) : List (Nat × Nat × Nat × Nat) := u.2.2.2.2.2.1
/-- whether it makes things of ours (a constructor), so that the next address is known -/
abbrev uF (u : MU) : Bool := u.2.2.2.2.2.2
/-- words that the tables alone decide and that stay, beside the good ones: links to private members of a nest mate, casts, declarations -/
def nestWord : Cond → Bool
  | .fieldLinkNest .. => true
  | .methodLinkNest .. => true
  | .castable .. => true
  | .declares _ => true
  | _ => false
theorem tab_at {w : Cond} (hc : w.onTables = true) {u U : State} (h : w.before #[] (u.setVm U.vm) = true) (a : Array Value) : w.before a U = true := by
  have e := Cond.onTables_vm (A := #[]) (A' := a) (U := u) (U' := U) U.vm w hc
  have hU : U.setVm U.vm = U := rfl
  rw [hU] at e
  rw [← e]
  exact h
def gw (w : Cond) : Bool := goodWord w || nestWord w
theorem gw_warm {w : Cond} {s U : State} (h : gw w = true) (hW : s.WarmedH U.vm) (hs : ∀ a, w.before a s = true) : ∀ a, w.before a U = true := by
  intro a
  rcases Bool.or_eq_true_iff.mp h with h1 | h1
  · exact word_at hW (good_of_word h1) (hs a)
  · cases w <;> first
      | (simp [nestWord] at h1; done)
      | exact va_Nw.use rfl (va_Nw.warmM hW (va_Nw.of (A := #[]) rfl (hs #[])))
      | exact va_Nw.use rfl (va_Nw.warmF hW (va_Nw.of (A := #[]) rfl (hs #[])))
      | exact tab_at (u := s) rfl (by rw [Cond.castable_setVm hW.alike]; exact hs #[]) a
      | exact tab_at (u := s) rfl (by rw [Cond.declares_setVm hW.alike]; exact hs #[]) a
/-- LETTERS, as its class makes them -/
def letT (j : Nat) : Int32 := ([65, 67, 71, 84] : List Int32).getD j 0
/-- the String constants of VariantKit: pool index and text -/
def strT : List (Nat × String) := [(56, "n is not 1 .. 16"), (67, "there are records or a draft"), (73, "there would be more than 160 bases"), (79, "length is not 1 .. 8"), (85, "the reference does not have these places"), (101, "n is not 1 .. 8"), (103, "there is no draft"), (108, "the draft has four alleles"), (117, "the draft has that allele"), (123, "there is no draft or no such allele"), (128, "the depth or the quality is out of its bounds"), (140, "there is no draft or no such sample"), (145, "no such allele"), (158, "no such pair"), (160, "value is not 0 .. 999"), (165, "the draft has one allele"), (171, "there are 24 records"), (271, "there is no such record"), (196, "the record has two alleles"), (198, "there would be more than 24 records"), (210, "there is no next record with this place"), (217, "more than four alleles, or one of more than 8 bases"), (230, "no such byte"), (236, "there would be more than 120 bytes"), (244, "the bytes are no record on this reference"), (252, "no such what"), (254, "no such base"), (273, "begin and end are not in order in 1 .. 255"), (269, "there are no such records")]
/-- exceptions that are no others -/
def ncT : List (String × String) := [("java/lang/IllegalStateException", "java/lang/IllegalArgumentException"), ("java/lang/IndexOutOfBoundsException", "java/lang/IllegalArgumentException"), ("java/util/NoSuchElementException", "java/lang/IllegalArgumentException"), ("java/lang/IllegalStateException", "java/util/NoSuchElementException")]
/-- what holds all along: the tables' words, the constants, what nobody writes -/
def Gd (g : GG) (A : Nat → Prop) (U : State) (H : Heap) : Prop :=
  (∀ w ∈ lw_tbl, gw w = true → ∀ a, w.before a U = true) ∧
  (∀ q ∈ strT, ∃ sa, vk_R RX5 q.1 q.2 sa U) ∧
  va_K g.1 vwCl (tysG g) U ∧
  (vx_Zq Bundle.tN "UNASSIGNED_STACK" Bundle.steD A U H ∧ vx_Zq Bundle.tN "SUPPRESSED_SENTINEL" Bundle.listD A U H) ∧
  (va_Z RX5 "LETTERS" "[I" (.ref g.2.2.1) A U H ∧ va_T .int g.2.2.1 4 (fun j => .int (letT j)) A U H) ∧
  va_T .int g.2.2.2.1 g.2.2.2.2.1 (fun j => .int (g.2.2.2.2.2 j)) A U H ∧
  va_AO RX4 U ∧ (∀ q ∈ ncT, va_Nc q.1 q.2 U)
theorem Gd_warm {g : GG} {A : Nat → Prop} {s U : State} {H : Heap} (hW : s.WarmedH U.vm) (h : Gd g A s H) : Gd g A U H := by
  obtain ⟨h1, h2, h3, ⟨h4, h5⟩, ⟨h6, h7⟩, h8, h9, h10⟩ := h
  exact ⟨fun w hw hg => gw_warm hg hW (h1 w hw hg), fun q hq => by obtain ⟨sa, hs⟩ := h2 q hq; exact ⟨sa, vk_R.warm hW hs⟩, va_K.moved hW.alike h3,
    ⟨vx_Zq.moved hW.alike h4, vx_Zq.moved hW.alike h5⟩, ⟨va_Z.moved hW.alike h6, va_T.moved hW.alike h7⟩, va_T.moved hW.alike h8, va_AO.moved hW.alike h9, fun q hq => va_Nc.moved hW.alike (h10 q hq)⟩
theorem Gd_kept {g : GG} {A : Nat → Prop} {U : State} {H H1 : Heap} (h : Gd g A U H) (hq : ∀ a : Nat, a < H.size → ¬ A a → H1[a]? = H[a]?) : Gd g A U H1 := by
  obtain ⟨h1, h2, h3, ⟨h4, h5⟩, ⟨h6, h7⟩, h8, h9, h10⟩ := h
  exact ⟨h1, h2, h3, ⟨h4.kept hq, h5.kept hq⟩, ⟨h6.kept hq, h7.kept hq⟩, h8.kept hq, h9, h10⟩
theorem Gd_narrow {g : GG} {A B : Nat → Prop} {U : State} {H : Heap} (h : Gd g A U H) (hAB : ∀ q, B q → A q) : Gd g B U H := by
  obtain ⟨h1, h2, h3, ⟨h4, h5⟩, ⟨h6, h7⟩, h8, h9, h10⟩ := h
  exact ⟨h1, h2, h3, ⟨h4.narrow hAB, h5.narrow hAB⟩, ⟨h6.narrow hAB, h7.narrow hAB⟩, h8.narrow hAB, h9, h10⟩
/-- what a method's body stands on -/
def Cx (g : GG) (l : Launch) (u : MU) (p : Program) (s : State) (m : MethodId) (args : Array Value) (meth : Method) (c : Code) (A : Nat → Prop) : Prop :=
  p.tables.exec = Jvm.exec ∧ c.code = uC u ∧ meth.sig.returnType = uT u ∧ c.maxLocals = uN u ∧ s.vm.findClass (uY u).cls = some m.cls ∧ meth.locks = false ∧ meth.name = (uY u).name ∧ l.stackTraces = false ∧ Gd g A s s.heap ∧ (∀ q, s.heap.size ≤ q → A q) ∧ c.exceptionTable.toList = tableOf (uH u)
abbrev FQ : Type := Array Value → List Frame → State → (Nat → Prop) → State → Prop
def Run (g : GG) (l : Launch) (u : MU) (Q : FQ) (pc : Nat) (lv : List (Nat × Value)) (st : List Value) (k n : Nat) (S : Mem) : Prop :=
  ∀ (p : Program) (e : Env) (s : State) (m : MethodId) (args : Array Value) (below : List Frame) (meth : Method) (c : Code) (A : Nat → Prop) (H : Heap) (locs : List Loc) (ls : Array Slot),
    Cx g l u p s m args meth c A → okW g A S H s k (uF u) → va_S A s.heap H locs → lv_has ls (uN u) lv → W p l e (uR u) s m args below meth c H locs k n (Q args below s A) (F0 m pc ls st)
/-- a method's end: an answer, or the name of what is thrown -/
def rQ (g : GG) (A : Nat → Prop) (r : Option Value ⊕ String) (S' : Mem) (mc : Nat) (f : Bool) : Array Value → State → Outcome → State → Prop := fun _ st oc t =>
  match r with
  | .inl v => oc = .returned v ∧ okW g A S' t.heap st mc f ∧ va_F A st t
  | .inr _ => False
def rX (g : GG) (A : Nat → Prop) (r : Option Value ⊕ String) (S' : Mem) (mc : Nat) (f : Bool) : String → State → State → Prop := fun E st t =>
  match r with
  | .inl _ => False
  | .inr E' => E = E' ∧ okW g A S' t.heap st mc f ∧ va_F A st t
def fin (g : GG) (u : MU) (r : Option Value ⊕ String) (S' : Mem) : FQ := fun args below s A => vx_MQ below (rQ g A r S' (uR u).cells (uF u)) (rX g A r S' (uR u).cells (uF u)) args s (uR u).cells (uR u).slots A
theorem Cx_w {g : GG} {l : Launch} {u : MU} {p : Program} {s : State} {m : MethodId} {args : Array Value} {meth : Method} {c : Code} {A : Nat → Prop} (C : Cx g l u p s m args meth c A) {w : Cond} (hm : w ∈ lw_tbl) (hg : gw w = true) : w.before args s = true := C.2.2.2.2.2.2.2.2.1.1 w hm hg args
theorem r_widen {g : GG} {l : Launch} {u : MU} {Q : FQ} {pc : Nat} {lv : List (Nat × Value)} {st : List Value} {k n k' n' : Nat} {S : Mem} (hx : uF u = false) (h1 : k ≤ k') (h2 : n ≤ n') (h : Run g l u Q pc lv st k' n' S) : Run g l u Q pc lv st k n S :=
  fun p e s m args below meth c A H locs ls C hW hS hl => W.widen h1 h2 (h p e s m args below meth c A H locs ls C ⟨hW.1, hW.2.1, hW.2.2.1, fun q => absurd (hx.symm.trans q) (by decide)⟩ hS hl)
/-- fewer locals -/
theorem r_sub {g : GG} {l : Launch} {u : MU} {Q : FQ} {pc : Nat} {lv lv' : List (Nat × Value)} {st : List Value} {k n : Nat} {S : Mem} (ks : List Nat) (hl' : lv_pick lv ks = lv') (h : Run g l u Q pc lv' st k n S) : Run g l u Q pc lv st k n S :=
  fun p e s m args below meth c A H locs ls C hW hS hl => h p e s m args below meth c A H locs ls C hW hS (lv_sub hl ks hl')
theorem r_iconst {g : GG} {l : Launch} {u : MU} {Q : FQ} {pc : Nat} {lv : List (Nat × Value)} {st : List Value} {k n : Nat} {S : Mem} {i : Int} {v : Int32} (hd : decode (uC u) pc = .ok (.iconst i, 1)) (hv : Int32.ofInt i = v) (h : Run g l u Q (pc + 1) lv (.int v :: st) k n S) : Run g l u Q pc lv (st) k n S :=
  fun p e s m args below meth c A H locs ls C hW hS hl => lv_iconst C.1 C.2.1 hd hv (h p e s m args below meth c A H locs ls C hW hS hl)
theorem r_bipush {g : GG} {l : Launch} {u : MU} {Q : FQ} {pc : Nat} {lv : List (Nat × Value)} {st : List Value} {k n : Nat} {S : Mem} {i : Int} {v : Int32} (hd : decode (uC u) pc = .ok (.bipush i, 2)) (hv : (Int8.ofInt i).toInt32 = v) (h : Run g l u Q (pc + 2) lv (.int v :: st) k n S) : Run g l u Q pc lv (st) k n S :=
  fun p e s m args below meth c A H locs ls C hW hS hl => lv_bipush C.1 C.2.1 hd hv (h p e s m args below meth c A H locs ls C hW hS hl)
theorem r_sipush {g : GG} {l : Launch} {u : MU} {Q : FQ} {pc : Nat} {lv : List (Nat × Value)} {st : List Value} {k n : Nat} {S : Mem} {i : Int} {v : Int32} (hd : decode (uC u) pc = .ok (.sipush i, 3)) (hv : (Int16.ofInt i).toInt32 = v) (h : Run g l u Q (pc + 3) lv (.int v :: st) k n S) : Run g l u Q pc lv (st) k n S :=
  fun p e s m args below meth c A H locs ls C hW hS hl => lv_sipush C.1 C.2.1 hd hv (h p e s m args below meth c A H locs ls C hW hS hl)
theorem r_lconst {g : GG} {l : Launch} {u : MU} {Q : FQ} {pc : Nat} {lv : List (Nat × Value)} {st : List Value} {k n : Nat} {S : Mem} {i : Fin 2} {v : Int64} (hd : decode (uC u) pc = .ok (.lconst i, 1)) (hv : Int64.ofNat (i : Nat) = v) (h : Run g l u Q (pc + 1) lv (.long v :: st) k n S) : Run g l u Q pc lv (st) k n S :=
  fun p e s m args below meth c A H locs ls C hW hS hl => lv_lconst C.1 C.2.1 hd hv (h p e s m args below meth c A H locs ls C hW hS hl)
theorem r_iadd {g : GG} {l : Launch} {u : MU} {Q : FQ} {pc : Nat} {lv : List (Nat × Value)} {st : List Value} {k n : Nat} {S : Mem} {x y : Int32} (hd : decode (uC u) pc = .ok (.iadd, 1)) (h : Run g l u Q (pc + 1) lv (.int (x + y) :: st) k n S) : Run g l u Q pc lv (.int y :: .int x :: st) k n S :=
  fun p e s m args below meth c A H locs ls C hW hS hl => lv_iadd C.1 C.2.1 hd (h p e s m args below meth c A H locs ls C hW hS hl)
theorem r_isub {g : GG} {l : Launch} {u : MU} {Q : FQ} {pc : Nat} {lv : List (Nat × Value)} {st : List Value} {k n : Nat} {S : Mem} {x y : Int32} (hd : decode (uC u) pc = .ok (.isub, 1)) (h : Run g l u Q (pc + 1) lv (.int (x - y) :: st) k n S) : Run g l u Q pc lv (.int y :: .int x :: st) k n S :=
  fun p e s m args below meth c A H locs ls C hW hS hl => lv_isub C.1 C.2.1 hd (h p e s m args below meth c A H locs ls C hW hS hl)
theorem r_imul {g : GG} {l : Launch} {u : MU} {Q : FQ} {pc : Nat} {lv : List (Nat × Value)} {st : List Value} {k n : Nat} {S : Mem} {x y : Int32} (hd : decode (uC u) pc = .ok (.imul, 1)) (h : Run g l u Q (pc + 1) lv (.int (x * y) :: st) k n S) : Run g l u Q pc lv (.int y :: .int x :: st) k n S :=
  fun p e s m args below meth c A H locs ls C hW hS hl => lv_imul C.1 C.2.1 hd (h p e s m args below meth c A H locs ls C hW hS hl)
theorem r_iand {g : GG} {l : Launch} {u : MU} {Q : FQ} {pc : Nat} {lv : List (Nat × Value)} {st : List Value} {k n : Nat} {S : Mem} {x y : Int32} (hd : decode (uC u) pc = .ok (.iand, 1)) (h : Run g l u Q (pc + 1) lv (.int (x &&& y) :: st) k n S) : Run g l u Q pc lv (.int y :: .int x :: st) k n S :=
  fun p e s m args below meth c A H locs ls C hW hS hl => lv_iand C.1 C.2.1 hd (h p e s m args below meth c A H locs ls C hW hS hl)
theorem r_ior {g : GG} {l : Launch} {u : MU} {Q : FQ} {pc : Nat} {lv : List (Nat × Value)} {st : List Value} {k n : Nat} {S : Mem} {x y : Int32} (hd : decode (uC u) pc = .ok (.ior, 1)) (h : Run g l u Q (pc + 1) lv (.int (x ||| y) :: st) k n S) : Run g l u Q pc lv (.int y :: .int x :: st) k n S :=
  fun p e s m args below meth c A H locs ls C hW hS hl => lv_ior C.1 C.2.1 hd (h p e s m args below meth c A H locs ls C hW hS hl)
theorem r_ishl {g : GG} {l : Launch} {u : MU} {Q : FQ} {pc : Nat} {lv : List (Nat × Value)} {st : List Value} {k n : Nat} {S : Mem} {x y : Int32} (hd : decode (uC u) pc = .ok (.ishl, 1)) (h : Run g l u Q (pc + 1) lv (.int (x <<< (y &&& 31)) :: st) k n S) : Run g l u Q pc lv (.int y :: .int x :: st) k n S :=
  fun p e s m args below meth c A H locs ls C hW hS hl => lv_ishl C.1 C.2.1 hd (h p e s m args below meth c A H locs ls C hW hS hl)
theorem r_ishr {g : GG} {l : Launch} {u : MU} {Q : FQ} {pc : Nat} {lv : List (Nat × Value)} {st : List Value} {k n : Nat} {S : Mem} {x y : Int32} (hd : decode (uC u) pc = .ok (.ishr, 1)) (h : Run g l u Q (pc + 1) lv (.int (x >>> (y &&& 31)) :: st) k n S) : Run g l u Q pc lv (.int y :: .int x :: st) k n S :=
  fun p e s m args below meth c A H locs ls C hW hS hl => lv_ishr C.1 C.2.1 hd (h p e s m args below meth c A H locs ls C hW hS hl)
theorem r_land {g : GG} {l : Launch} {u : MU} {Q : FQ} {pc : Nat} {lv : List (Nat × Value)} {st : List Value} {k n : Nat} {S : Mem} {x y : Int64} (hd : decode (uC u) pc = .ok (.land, 1)) (h : Run g l u Q (pc + 1) lv (.long (x &&& y) :: st) k n S) : Run g l u Q pc lv (.long y :: .long x :: st) k n S :=
  fun p e s m args below meth c A H locs ls C hW hS hl => lv_land C.1 C.2.1 hd (h p e s m args below meth c A H locs ls C hW hS hl)
theorem r_lor {g : GG} {l : Launch} {u : MU} {Q : FQ} {pc : Nat} {lv : List (Nat × Value)} {st : List Value} {k n : Nat} {S : Mem} {x y : Int64} (hd : decode (uC u) pc = .ok (.lor, 1)) (h : Run g l u Q (pc + 1) lv (.long (x ||| y) :: st) k n S) : Run g l u Q pc lv (.long y :: .long x :: st) k n S :=
  fun p e s m args below meth c A H locs ls C hW hS hl => lv_lor C.1 C.2.1 hd (h p e s m args below meth c A H locs ls C hW hS hl)
theorem r_lsub {g : GG} {l : Launch} {u : MU} {Q : FQ} {pc : Nat} {lv : List (Nat × Value)} {st : List Value} {k n : Nat} {S : Mem} {x y : Int64} (hd : decode (uC u) pc = .ok (.lsub, 1)) (h : Run g l u Q (pc + 1) lv (.long (x - y) :: st) k n S) : Run g l u Q pc lv (.long y :: .long x :: st) k n S :=
  fun p e s m args below meth c A H locs ls C hW hS hl => lv_lsub C.1 C.2.1 hd (h p e s m args below meth c A H locs ls C hW hS hl)
theorem r_lshl {g : GG} {l : Launch} {u : MU} {Q : FQ} {pc : Nat} {lv : List (Nat × Value)} {st : List Value} {k n : Nat} {S : Mem} {x : Int64} {y : Int32} (hd : decode (uC u) pc = .ok (.lshl, 1)) (h : Run g l u Q (pc + 1) lv (.long (x <<< (y.toInt64 &&& 63)) :: st) k n S) : Run g l u Q pc lv (.int y :: .long x :: st) k n S :=
  fun p e s m args below meth c A H locs ls C hW hS hl => lv_lshl C.1 C.2.1 hd rfl (h p e s m args below meth c A H locs ls C hW hS hl)
theorem r_lshr {g : GG} {l : Launch} {u : MU} {Q : FQ} {pc : Nat} {lv : List (Nat × Value)} {st : List Value} {k n : Nat} {S : Mem} {x : Int64} {y : Int32} (hd : decode (uC u) pc = .ok (.lshr, 1)) (h : Run g l u Q (pc + 1) lv (.long (x >>> (y.toInt64 &&& 63)) :: st) k n S) : Run g l u Q pc lv (.int y :: .long x :: st) k n S :=
  fun p e s m args below meth c A H locs ls C hW hS hl => lv_lshr C.1 C.2.1 hd rfl (h p e s m args below meth c A H locs ls C hW hS hl)
theorem r_lushr {g : GG} {l : Launch} {u : MU} {Q : FQ} {pc : Nat} {lv : List (Nat × Value)} {st : List Value} {k n : Nat} {S : Mem} {x : Int64} {y : Int32} (hd : decode (uC u) pc = .ok (.lushr, 1)) (h : Run g l u Q (pc + 1) lv (.long ((x.toUInt64 >>> (y.toInt64.toUInt64 &&& Int64.toUInt64 63)).toInt64) :: st) k n S) : Run g l u Q pc lv (.int y :: .long x :: st) k n S :=
  fun p e s m args below meth c A H locs ls C hW hS hl => lv_lushr C.1 C.2.1 hd rfl (h p e s m args below meth c A H locs ls C hW hS hl)
theorem r_l2i {g : GG} {l : Launch} {u : MU} {Q : FQ} {pc : Nat} {lv : List (Nat × Value)} {st : List Value} {k n : Nat} {S : Mem} {x : Int64} (hd : decode (uC u) pc = .ok (.l2i, 1)) (h : Run g l u Q (pc + 1) lv (.int x.toInt32 :: st) k n S) : Run g l u Q pc lv (.long x :: st) k n S :=
  fun p e s m args below meth c A H locs ls C hW hS hl => lv_l2i C.1 C.2.1 hd rfl (h p e s m args below meth c A H locs ls C hW hS hl)
theorem r_i2l {g : GG} {l : Launch} {u : MU} {Q : FQ} {pc : Nat} {lv : List (Nat × Value)} {st : List Value} {k n : Nat} {S : Mem} {x : Int32} (hd : decode (uC u) pc = .ok (.i2l, 1)) (h : Run g l u Q (pc + 1) lv (.long x.toInt64 :: st) k n S) : Run g l u Q pc lv (.int x :: st) k n S :=
  fun p e s m args below meth c A H locs ls C hW hS hl => lv_i2l C.1 C.2.1 hd rfl (h p e s m args below meth c A H locs ls C hW hS hl)
theorem r_i2f {g : GG} {l : Launch} {u : MU} {Q : FQ} {pc : Nat} {lv : List (Nat × Value)} {st : List Value} {k n : Nat} {S : Mem} {x : Int32} (hd : decode (uC u) pc = .ok (.i2f, 1)) (h : Run g l u Q (pc + 1) lv (.float (FP.i2f x) :: st) k n S) : Run g l u Q pc lv (.int x :: st) k n S :=
  fun p e s m args below meth c A H locs ls C hW hS hl => lv_i2f C.1 C.2.1 hd (h p e s m args below meth c A H locs ls C hW hS hl)
theorem r_fadd {g : GG} {l : Launch} {u : MU} {Q : FQ} {pc : Nat} {lv : List (Nat × Value)} {st : List Value} {k n : Nat} {S : Mem} {x y : UInt32} (hd : decode (uC u) pc = .ok (.fadd, 1)) (hne : vf_n32 (FP.fadd x y)) (h : Run g l u Q (pc + 1) lv (.float (FP.fadd x y) :: st) k n S) : Run g l u Q pc lv (.float y :: .float x :: st) k n S :=
  fun p e s m args below meth c A H locs ls C hW hS hl => lv_fadd C.1 C.2.1 hd hne (h p e s m args below meth c A H locs ls C hW hS hl)
theorem r_fmul {g : GG} {l : Launch} {u : MU} {Q : FQ} {pc : Nat} {lv : List (Nat × Value)} {st : List Value} {k n : Nat} {S : Mem} {x y : UInt32} (hd : decode (uC u) pc = .ok (.fmul, 1)) (hne : vf_n32 (FP.fmul x y)) (h : Run g l u Q (pc + 1) lv (.float (FP.fmul x y) :: st) k n S) : Run g l u Q pc lv (.float y :: .float x :: st) k n S :=
  fun p e s m args below meth c A H locs ls C hW hS hl => lv_fmul C.1 C.2.1 hd hne (h p e s m args below meth c A H locs ls C hW hS hl)
theorem r_fdiv {g : GG} {l : Launch} {u : MU} {Q : FQ} {pc : Nat} {lv : List (Nat × Value)} {st : List Value} {k n : Nat} {S : Mem} {x y : UInt32} (hd : decode (uC u) pc = .ok (.fdiv, 1)) (hne : vf_n32 (FP.fdiv x y)) (h : Run g l u Q (pc + 1) lv (.float (FP.fdiv x y) :: st) k n S) : Run g l u Q pc lv (.float y :: .float x :: st) k n S :=
  fun p e s m args below meth c A H locs ls C hW hS hl => lv_fdiv C.1 C.2.1 hd hne (h p e s m args below meth c A H locs ls C hW hS hl)
theorem r_f2d {g : GG} {l : Launch} {u : MU} {Q : FQ} {pc : Nat} {lv : List (Nat × Value)} {st : List Value} {k n : Nat} {S : Mem} {x : UInt32} (hd : decode (uC u) pc = .ok (.f2d, 1)) (hne : vf_n64 (FP.f2d x)) (h : Run g l u Q (pc + 1) lv (.double (FP.f2d x) :: st) k n S) : Run g l u Q pc lv (.float x :: st) k n S :=
  fun p e s m args below meth c A H locs ls C hW hS hl => lv_f2d C.1 C.2.1 hd hne (h p e s m args below meth c A H locs ls C hW hS hl)
theorem r_fcmp {g : GG} {l : Launch} {u : MU} {Q : FQ} {pc : Nat} {lv : List (Nat × Value)} {st : List Value} {k n : Nat} {S : Mem} {x y : UInt32} {op : CmpOp} (hd : decode (uC u) pc = .ok (.fcmp op, 1)) (h : Run g l u Q (pc + 1) lv (.int (Op.cmpValue (FP.fcmp x y) op) :: st) k n S) : Run g l u Q pc lv (.float y :: .float x :: st) k n S :=
  fun p e s m args below meth c A H locs ls C hW hS hl => lv_fcmp C.1 C.2.1 hd (h p e s m args below meth c A H locs ls C hW hS hl)
theorem r_dcmp {g : GG} {l : Launch} {u : MU} {Q : FQ} {pc : Nat} {lv : List (Nat × Value)} {st : List Value} {k n : Nat} {S : Mem} {x y : UInt64} {op : CmpOp} (hd : decode (uC u) pc = .ok (.dcmp op, 1)) (h : Run g l u Q (pc + 1) lv (.int (Op.cmpValue (FP.dcmp x y) op) :: st) k n S) : Run g l u Q pc lv (.double y :: .double x :: st) k n S :=
  fun p e s m args below meth c A H locs ls C hW hS hl => lv_dcmp C.1 C.2.1 hd (h p e s m args below meth c A H locs ls C hW hS hl)
theorem r_dup {g : GG} {l : Launch} {u : MU} {Q : FQ} {pc : Nat} {lv : List (Nat × Value)} {st : List Value} {k n : Nat} {S : Mem} {v : Value} (hd : decode (uC u) pc = .ok (.dup, 1)) (hv : v.category = 1) (h : Run g l u Q (pc + 1) lv (v :: v :: st) k n S) : Run g l u Q pc lv (v :: st) k n S :=
  fun p e s m args below meth c A H locs ls C hW hS hl => lv_dup C.1 C.2.1 hd hv (h p e s m args below meth c A H locs ls C hW hS hl)
theorem r_pop {g : GG} {l : Launch} {u : MU} {Q : FQ} {pc : Nat} {lv : List (Nat × Value)} {st : List Value} {k n : Nat} {S : Mem} {v : Value} (hd : decode (uC u) pc = .ok (.pop, 1)) (hv : v.category = 1) (h : Run g l u Q (pc + 1) lv (st) k n S) : Run g l u Q pc lv (v :: st) k n S :=
  fun p e s m args below meth c A H locs ls C hW hS hl => lv_pop C.1 C.2.1 hd hv (h p e s m args below meth c A H locs ls C hW hS hl)
theorem r_idiv {g : GG} {l : Launch} {u : MU} {Q : FQ} {pc : Nat} {lv : List (Nat × Value)} {st : List Value} {k n : Nat} {S : Mem} {x y : Int32} (hd : decode (uC u) pc = .ok (.idiv, 1)) (hne : ¬ y = 0) (h : Run g l u Q (pc + 1) lv (.int (x / y) :: st) k n S) : Run g l u Q pc lv (.int y :: .int x :: st) k n S :=
  fun p e s m args below meth c A H locs ls C hW hS hl => lv_idiv C.1 C.2.1 hd hne (h p e s m args below meth c A H locs ls C hW hS hl)
theorem r_irem {g : GG} {l : Launch} {u : MU} {Q : FQ} {pc : Nat} {lv : List (Nat × Value)} {st : List Value} {k n : Nat} {S : Mem} {x y : Int32} (hd : decode (uC u) pc = .ok (.irem, 1)) (hne : ¬ y = 0) (h : Run g l u Q (pc + 1) lv (.int (x - x / y * y) :: st) k n S) : Run g l u Q pc lv (.int y :: .int x :: st) k n S :=
  fun p e s m args below meth c A H locs ls C hW hS hl => lv_irem C.1 C.2.1 hd hne (h p e s m args below meth c A H locs ls C hW hS hl)
theorem r_iload_n {g : GG} {l : Launch} {u : MU} {Q : FQ} {pc : Nat} {lv : List (Nat × Value)} {st : List Value} {k n : Nat} {S : Mem} {z : Fin 4} {i : Nat} {x : Int32} (hd : decode (uC u) pc = .ok (.iload_n z, 1)) (hi : (z : Nat) = i) (j : Nat) (hj : lv[j]? = some (i, .int x)) (h : Run g l u Q (pc + 1) lv (.int x :: st) k n S) : Run g l u Q pc lv st k n S :=
  fun p e s m args below meth c A H locs ls C hW hS hl => lv_iload_n C.1 C.2.1 hd hi (lv_at hl j hj) (h p e s m args below meth c A H locs ls C hW hS hl)
theorem r_iload {g : GG} {l : Launch} {u : MU} {Q : FQ} {pc : Nat} {lv : List (Nat × Value)} {st : List Value} {k n : Nat} {S : Mem} {i : Nat} {x : Int32} (hd : decode (uC u) pc = .ok (.iload i, 2)) (j : Nat) (hj : lv[j]? = some (i, .int x)) (h : Run g l u Q (pc + 2) lv (.int x :: st) k n S) : Run g l u Q pc lv st k n S :=
  fun p e s m args below meth c A H locs ls C hW hS hl => lv_iload C.1 C.2.1 hd (lv_at hl j hj) (h p e s m args below meth c A H locs ls C hW hS hl)
theorem r_aload_n {g : GG} {l : Launch} {u : MU} {Q : FQ} {pc : Nat} {lv : List (Nat × Value)} {st : List Value} {k n : Nat} {S : Mem} {z : Fin 4} {i : Nat} {x : Nat} (hd : decode (uC u) pc = .ok (.aload_n z, 1)) (hi : (z : Nat) = i) (j : Nat) (hj : lv[j]? = some (i, .ref x)) (h : Run g l u Q (pc + 1) lv (.ref x :: st) k n S) : Run g l u Q pc lv st k n S :=
  fun p e s m args below meth c A H locs ls C hW hS hl => lv_aload_n C.1 C.2.1 hd hi (lv_at hl j hj) (h p e s m args below meth c A H locs ls C hW hS hl)
theorem r_aload {g : GG} {l : Launch} {u : MU} {Q : FQ} {pc : Nat} {lv : List (Nat × Value)} {st : List Value} {k n : Nat} {S : Mem} {i : Nat} {x : Nat} (hd : decode (uC u) pc = .ok (.aload i, 2)) (j : Nat) (hj : lv[j]? = some (i, .ref x)) (h : Run g l u Q (pc + 2) lv (.ref x :: st) k n S) : Run g l u Q pc lv st k n S :=
  fun p e s m args below meth c A H locs ls C hW hS hl => lv_aload C.1 C.2.1 hd (lv_at hl j hj) (h p e s m args below meth c A H locs ls C hW hS hl)
theorem r_lload_n {g : GG} {l : Launch} {u : MU} {Q : FQ} {pc : Nat} {lv : List (Nat × Value)} {st : List Value} {k n : Nat} {S : Mem} {z : Fin 4} {i : Nat} {x : Int64} (hd : decode (uC u) pc = .ok (.lload_n z, 1)) (hi : (z : Nat) = i) (j : Nat) (hj : lv[j]? = some (i, .long x)) (h : Run g l u Q (pc + 1) lv (.long x :: st) k n S) : Run g l u Q pc lv st k n S :=
  fun p e s m args below meth c A H locs ls C hW hS hl => lv_lload_n C.1 C.2.1 hd hi (lv_at hl j hj) (h p e s m args below meth c A H locs ls C hW hS hl)
theorem r_fload_n {g : GG} {l : Launch} {u : MU} {Q : FQ} {pc : Nat} {lv : List (Nat × Value)} {st : List Value} {k n : Nat} {S : Mem} {z : Fin 4} {i : Nat} {x : UInt32} (hd : decode (uC u) pc = .ok (.fload_n z, 1)) (hi : (z : Nat) = i) (j : Nat) (hj : lv[j]? = some (i, .float x)) (h : Run g l u Q (pc + 1) lv (.float x :: st) k n S) : Run g l u Q pc lv st k n S :=
  fun p e s m args below meth c A H locs ls C hW hS hl => lv_fload_n C.1 C.2.1 hd hi (lv_at hl j hj) (h p e s m args below meth c A H locs ls C hW hS hl)
theorem r_fload {g : GG} {l : Launch} {u : MU} {Q : FQ} {pc : Nat} {lv : List (Nat × Value)} {st : List Value} {k n : Nat} {S : Mem} {i : Nat} {x : UInt32} (hd : decode (uC u) pc = .ok (.fload i, 2)) (j : Nat) (hj : lv[j]? = some (i, .float x)) (h : Run g l u Q (pc + 2) lv (.float x :: st) k n S) : Run g l u Q pc lv st k n S :=
  fun p e s m args below meth c A H locs ls C hW hS hl => lv_fload C.1 C.2.1 hd (lv_at hl j hj) (h p e s m args below meth c A H locs ls C hW hS hl)
theorem r_istore_n {g : GG} {l : Launch} {u : MU} {Q : FQ} {pc : Nat} {lv : List (Nat × Value)} {st : List Value} {k n : Nat} {S : Mem} {z : Fin 4} {i : Nat} {x : Int32} {lv' : List (Nat × Value)} (hd : decode (uC u) pc = .ok (.istore_n z, 1)) (hi : (z : Nat) = i) (hn : i < uN u) (hl' : (i, Value.int x) :: lv.filter (fun q => !(q.1 == i) && !(q.1 + 1 == i && q.2.category == 2)) = lv') (h : Run g l u Q (pc + 1) lv' st k n S) : Run g l u Q pc lv (.int x :: st) k n S :=
  fun p e s m args below meth c A H locs ls C hW hS hl => lv_istore_n C.1 C.2.1 hd hi hl hn hl' (fun ls hl => h p e s m args below meth c A H locs ls C hW hS hl)
theorem r_istore {g : GG} {l : Launch} {u : MU} {Q : FQ} {pc : Nat} {lv : List (Nat × Value)} {st : List Value} {k n : Nat} {S : Mem} {i : Nat} {x : Int32} {lv' : List (Nat × Value)} (hd : decode (uC u) pc = .ok (.istore i, 2)) (hn : i < uN u) (hl' : (i, Value.int x) :: lv.filter (fun q => !(q.1 == i) && !(q.1 + 1 == i && q.2.category == 2)) = lv') (h : Run g l u Q (pc + 2) lv' st k n S) : Run g l u Q pc lv (.int x :: st) k n S :=
  fun p e s m args below meth c A H locs ls C hW hS hl => lv_istore C.1 C.2.1 hd hl hn hl' (fun ls hl => h p e s m args below meth c A H locs ls C hW hS hl)
theorem r_astore_n {g : GG} {l : Launch} {u : MU} {Q : FQ} {pc : Nat} {lv : List (Nat × Value)} {st : List Value} {k n : Nat} {S : Mem} {z : Fin 4} {i : Nat} {x : Nat} {lv' : List (Nat × Value)} (hd : decode (uC u) pc = .ok (.astore_n z, 1)) (hi : (z : Nat) = i) (hn : i < uN u) (hl' : (i, Value.ref x) :: lv.filter (fun q => !(q.1 == i) && !(q.1 + 1 == i && q.2.category == 2)) = lv') (h : Run g l u Q (pc + 1) lv' st k n S) : Run g l u Q pc lv (.ref x :: st) k n S :=
  fun p e s m args below meth c A H locs ls C hW hS hl => lv_astore_n C.1 C.2.1 hd hi hl hn hl' (fun ls hl => h p e s m args below meth c A H locs ls C hW hS hl)
theorem r_astore {g : GG} {l : Launch} {u : MU} {Q : FQ} {pc : Nat} {lv : List (Nat × Value)} {st : List Value} {k n : Nat} {S : Mem} {i : Nat} {x : Nat} {lv' : List (Nat × Value)} (hd : decode (uC u) pc = .ok (.astore i, 2)) (hn : i < uN u) (hl' : (i, Value.ref x) :: lv.filter (fun q => !(q.1 == i) && !(q.1 + 1 == i && q.2.category == 2)) = lv') (h : Run g l u Q (pc + 2) lv' st k n S) : Run g l u Q pc lv (.ref x :: st) k n S :=
  fun p e s m args below meth c A H locs ls C hW hS hl => lv_astore C.1 C.2.1 hd hl hn hl' (fun ls hl => h p e s m args below meth c A H locs ls C hW hS hl)
theorem r_fstore_n {g : GG} {l : Launch} {u : MU} {Q : FQ} {pc : Nat} {lv : List (Nat × Value)} {st : List Value} {k n : Nat} {S : Mem} {z : Fin 4} {i : Nat} {x : UInt32} {lv' : List (Nat × Value)} (hd : decode (uC u) pc = .ok (.fstore_n z, 1)) (hi : (z : Nat) = i) (hn : i < uN u) (hl' : (i, Value.float x) :: lv.filter (fun q => !(q.1 == i) && !(q.1 + 1 == i && q.2.category == 2)) = lv') (h : Run g l u Q (pc + 1) lv' st k n S) : Run g l u Q pc lv (.float x :: st) k n S :=
  fun p e s m args below meth c A H locs ls C hW hS hl => lv_fstore_n C.1 C.2.1 hd hi hl hn hl' (fun ls hl => h p e s m args below meth c A H locs ls C hW hS hl)
theorem r_fstore {g : GG} {l : Launch} {u : MU} {Q : FQ} {pc : Nat} {lv : List (Nat × Value)} {st : List Value} {k n : Nat} {S : Mem} {i : Nat} {x : UInt32} {lv' : List (Nat × Value)} (hd : decode (uC u) pc = .ok (.fstore i, 2)) (hn : i < uN u) (hl' : (i, Value.float x) :: lv.filter (fun q => !(q.1 == i) && !(q.1 + 1 == i && q.2.category == 2)) = lv') (h : Run g l u Q (pc + 2) lv' st k n S) : Run g l u Q pc lv (.float x :: st) k n S :=
  fun p e s m args below meth c A H locs ls C hW hS hl => lv_fstore C.1 C.2.1 hd hl hn hl' (fun ls hl => h p e s m args below meth c A H locs ls C hW hS hl)
theorem r_iinc {g : GG} {l : Launch} {u : MU} {Q : FQ} {pc : Nat} {lv : List (Nat × Value)} {st : List Value} {k n : Nat} {S : Mem} {i : Nat} {d : Int} {x v : Int32} {lv' : List (Nat × Value)} (hd : decode (uC u) pc = .ok (.iinc i d, 3)) (j : Nat) (hj : lv[j]? = some (i, .int x)) (hv : x + Int32.ofInt d = v) (hn : i < uN u) (hl' : (i, Value.int v) :: lv.filter (fun q => !(q.1 == i) && !(q.1 + 1 == i && q.2.category == 2)) = lv') (h : Run g l u Q (pc + 3) lv' st k n S) : Run g l u Q pc lv st k n S :=
  fun p e s m args below meth c A H locs ls C hW hS hl => lv_iinc C.1 C.2.1 hd hl hj hv hn hl' (fun ls hl => h p e s m args below meth c A H locs ls C hW hS hl)
theorem r_if_eq {g : GG} {l : Launch} {u : MU} {Q : FQ} {pc : Nat} {lv : List (Nat × Value)} {st : List Value} {k n : Nat} {S : Mem} {x : Int32} {off : Int} {tgt : Nat} (hd : decode (uC u) pc = .ok (.ifCond .eq off, 3)) (ht : (pc : Int) + off = (tgt : Int)) (ht' : x = 0 → Run g l u Q tgt lv st k n S) (hf' : ¬ x = 0 → Run g l u Q (pc + 3) lv st k n S) : Run g l u Q pc lv (.int x :: st) k n S :=
  fun p e s m args below meth c A H locs ls C hW hS hl => lv_if_eq C.1 C.2.1 hd ht (fun q => ht' q p e s m args below meth c A H locs ls C hW hS hl) (fun q => hf' q p e s m args below meth c A H locs ls C hW hS hl)
theorem r_icmp_eq {g : GG} {l : Launch} {u : MU} {Q : FQ} {pc : Nat} {lv : List (Nat × Value)} {st : List Value} {k n : Nat} {S : Mem} {x y : Int32} {off : Int} {tgt : Nat} (hd : decode (uC u) pc = .ok (.if_icmp .eq off, 3)) (ht : (pc : Int) + off = (tgt : Int)) (ht' : x = y → Run g l u Q tgt lv st k n S) (hf' : ¬ x = y → Run g l u Q (pc + 3) lv st k n S) : Run g l u Q pc lv (.int y :: .int x :: st) k n S :=
  fun p e s m args below meth c A H locs ls C hW hS hl => lv_icmp_eq C.1 C.2.1 hd ht (fun q => ht' q p e s m args below meth c A H locs ls C hW hS hl) (fun q => hf' q p e s m args below meth c A H locs ls C hW hS hl)
theorem r_if_ne {g : GG} {l : Launch} {u : MU} {Q : FQ} {pc : Nat} {lv : List (Nat × Value)} {st : List Value} {k n : Nat} {S : Mem} {x : Int32} {off : Int} {tgt : Nat} (hd : decode (uC u) pc = .ok (.ifCond .ne off, 3)) (ht : (pc : Int) + off = (tgt : Int)) (ht' : ¬ x = 0 → Run g l u Q tgt lv st k n S) (hf' : x = 0 → Run g l u Q (pc + 3) lv st k n S) : Run g l u Q pc lv (.int x :: st) k n S :=
  fun p e s m args below meth c A H locs ls C hW hS hl => lv_if_ne C.1 C.2.1 hd ht (fun q => ht' q p e s m args below meth c A H locs ls C hW hS hl) (fun q => hf' q p e s m args below meth c A H locs ls C hW hS hl)
theorem r_icmp_ne {g : GG} {l : Launch} {u : MU} {Q : FQ} {pc : Nat} {lv : List (Nat × Value)} {st : List Value} {k n : Nat} {S : Mem} {x y : Int32} {off : Int} {tgt : Nat} (hd : decode (uC u) pc = .ok (.if_icmp .ne off, 3)) (ht : (pc : Int) + off = (tgt : Int)) (ht' : ¬ x = y → Run g l u Q tgt lv st k n S) (hf' : x = y → Run g l u Q (pc + 3) lv st k n S) : Run g l u Q pc lv (.int y :: .int x :: st) k n S :=
  fun p e s m args below meth c A H locs ls C hW hS hl => lv_icmp_ne C.1 C.2.1 hd ht (fun q => ht' q p e s m args below meth c A H locs ls C hW hS hl) (fun q => hf' q p e s m args below meth c A H locs ls C hW hS hl)
theorem r_if_lt {g : GG} {l : Launch} {u : MU} {Q : FQ} {pc : Nat} {lv : List (Nat × Value)} {st : List Value} {k n : Nat} {S : Mem} {x : Int32} {off : Int} {tgt : Nat} (hd : decode (uC u) pc = .ok (.ifCond .lt off, 3)) (ht : (pc : Int) + off = (tgt : Int)) (ht' : x < 0 → Run g l u Q tgt lv st k n S) (hf' : ¬ x < 0 → Run g l u Q (pc + 3) lv st k n S) : Run g l u Q pc lv (.int x :: st) k n S :=
  fun p e s m args below meth c A H locs ls C hW hS hl => lv_if_lt C.1 C.2.1 hd ht (fun q => ht' q p e s m args below meth c A H locs ls C hW hS hl) (fun q => hf' q p e s m args below meth c A H locs ls C hW hS hl)
theorem r_icmp_lt {g : GG} {l : Launch} {u : MU} {Q : FQ} {pc : Nat} {lv : List (Nat × Value)} {st : List Value} {k n : Nat} {S : Mem} {x y : Int32} {off : Int} {tgt : Nat} (hd : decode (uC u) pc = .ok (.if_icmp .lt off, 3)) (ht : (pc : Int) + off = (tgt : Int)) (ht' : x < y → Run g l u Q tgt lv st k n S) (hf' : ¬ x < y → Run g l u Q (pc + 3) lv st k n S) : Run g l u Q pc lv (.int y :: .int x :: st) k n S :=
  fun p e s m args below meth c A H locs ls C hW hS hl => lv_icmp_lt C.1 C.2.1 hd ht (fun q => ht' q p e s m args below meth c A H locs ls C hW hS hl) (fun q => hf' q p e s m args below meth c A H locs ls C hW hS hl)
theorem r_if_ge {g : GG} {l : Launch} {u : MU} {Q : FQ} {pc : Nat} {lv : List (Nat × Value)} {st : List Value} {k n : Nat} {S : Mem} {x : Int32} {off : Int} {tgt : Nat} (hd : decode (uC u) pc = .ok (.ifCond .ge off, 3)) (ht : (pc : Int) + off = (tgt : Int)) (ht' : 0 ≤ x → Run g l u Q tgt lv st k n S) (hf' : ¬ 0 ≤ x → Run g l u Q (pc + 3) lv st k n S) : Run g l u Q pc lv (.int x :: st) k n S :=
  fun p e s m args below meth c A H locs ls C hW hS hl => lv_if_ge C.1 C.2.1 hd ht (fun q => ht' q p e s m args below meth c A H locs ls C hW hS hl) (fun q => hf' q p e s m args below meth c A H locs ls C hW hS hl)
theorem r_icmp_ge {g : GG} {l : Launch} {u : MU} {Q : FQ} {pc : Nat} {lv : List (Nat × Value)} {st : List Value} {k n : Nat} {S : Mem} {x y : Int32} {off : Int} {tgt : Nat} (hd : decode (uC u) pc = .ok (.if_icmp .ge off, 3)) (ht : (pc : Int) + off = (tgt : Int)) (ht' : y ≤ x → Run g l u Q tgt lv st k n S) (hf' : ¬ y ≤ x → Run g l u Q (pc + 3) lv st k n S) : Run g l u Q pc lv (.int y :: .int x :: st) k n S :=
  fun p e s m args below meth c A H locs ls C hW hS hl => lv_icmp_ge C.1 C.2.1 hd ht (fun q => ht' q p e s m args below meth c A H locs ls C hW hS hl) (fun q => hf' q p e s m args below meth c A H locs ls C hW hS hl)
theorem r_if_gt {g : GG} {l : Launch} {u : MU} {Q : FQ} {pc : Nat} {lv : List (Nat × Value)} {st : List Value} {k n : Nat} {S : Mem} {x : Int32} {off : Int} {tgt : Nat} (hd : decode (uC u) pc = .ok (.ifCond .gt off, 3)) (ht : (pc : Int) + off = (tgt : Int)) (ht' : 0 < x → Run g l u Q tgt lv st k n S) (hf' : ¬ 0 < x → Run g l u Q (pc + 3) lv st k n S) : Run g l u Q pc lv (.int x :: st) k n S :=
  fun p e s m args below meth c A H locs ls C hW hS hl => lv_if_gt C.1 C.2.1 hd ht (fun q => ht' q p e s m args below meth c A H locs ls C hW hS hl) (fun q => hf' q p e s m args below meth c A H locs ls C hW hS hl)
theorem r_icmp_gt {g : GG} {l : Launch} {u : MU} {Q : FQ} {pc : Nat} {lv : List (Nat × Value)} {st : List Value} {k n : Nat} {S : Mem} {x y : Int32} {off : Int} {tgt : Nat} (hd : decode (uC u) pc = .ok (.if_icmp .gt off, 3)) (ht : (pc : Int) + off = (tgt : Int)) (ht' : y < x → Run g l u Q tgt lv st k n S) (hf' : ¬ y < x → Run g l u Q (pc + 3) lv st k n S) : Run g l u Q pc lv (.int y :: .int x :: st) k n S :=
  fun p e s m args below meth c A H locs ls C hW hS hl => lv_icmp_gt C.1 C.2.1 hd ht (fun q => ht' q p e s m args below meth c A H locs ls C hW hS hl) (fun q => hf' q p e s m args below meth c A H locs ls C hW hS hl)
theorem r_if_le {g : GG} {l : Launch} {u : MU} {Q : FQ} {pc : Nat} {lv : List (Nat × Value)} {st : List Value} {k n : Nat} {S : Mem} {x : Int32} {off : Int} {tgt : Nat} (hd : decode (uC u) pc = .ok (.ifCond .le off, 3)) (ht : (pc : Int) + off = (tgt : Int)) (ht' : x ≤ 0 → Run g l u Q tgt lv st k n S) (hf' : ¬ x ≤ 0 → Run g l u Q (pc + 3) lv st k n S) : Run g l u Q pc lv (.int x :: st) k n S :=
  fun p e s m args below meth c A H locs ls C hW hS hl => lv_if_le C.1 C.2.1 hd ht (fun q => ht' q p e s m args below meth c A H locs ls C hW hS hl) (fun q => hf' q p e s m args below meth c A H locs ls C hW hS hl)
theorem r_icmp_le {g : GG} {l : Launch} {u : MU} {Q : FQ} {pc : Nat} {lv : List (Nat × Value)} {st : List Value} {k n : Nat} {S : Mem} {x y : Int32} {off : Int} {tgt : Nat} (hd : decode (uC u) pc = .ok (.if_icmp .le off, 3)) (ht : (pc : Int) + off = (tgt : Int)) (ht' : x ≤ y → Run g l u Q tgt lv st k n S) (hf' : ¬ x ≤ y → Run g l u Q (pc + 3) lv st k n S) : Run g l u Q pc lv (.int y :: .int x :: st) k n S :=
  fun p e s m args below meth c A H locs ls C hW hS hl => lv_icmp_le C.1 C.2.1 hd ht (fun q => ht' q p e s m args below meth c A H locs ls C hW hS hl) (fun q => hf' q p e s m args below meth c A H locs ls C hW hS hl)
theorem r_goto {g : GG} {l : Launch} {u : MU} {Q : FQ} {pc : Nat} {lv : List (Nat × Value)} {st : List Value} {k n : Nat} {S : Mem} {off : Int} {tgt : Nat} (hd : decode (uC u) pc = .ok (.goto off, 3)) (ht : (pc : Int) + off = (tgt : Int)) (h : Run g l u Q tgt lv st k n S) : Run g l u Q pc lv st k n S :=
  fun p e s m args below meth c A H locs ls C hW hS hl => lv_goto C.1 C.2.1 hd ht (h p e s m args below meth c A H locs ls C hW hS hl)
theorem r_fconst0 {g : GG} {l : Launch} {u : MU} {Q : FQ} {pc : Nat} {lv : List (Nat × Value)} {st : List Value} {k n : Nat} {S : Mem} (hd : decode (uC u) pc = .ok (.fconst 0, 1)) (h : Run g l u Q (pc + 1) lv (.float FP.fconst0 :: st) k n S) : Run g l u Q pc lv st k n S :=
  fun p e s m args below meth c A H locs ls C hW hS hl => lv_fconst0 C.1 C.2.1 hd (h p e s m args below meth c A H locs ls C hW hS hl)
theorem r_lcmp {g : GG} {l : Launch} {u : MU} {Q : FQ} {pc : Nat} {lv : List (Nat × Value)} {st : List Value} {k n : Nat} {S : Mem} {x y : Int64} (hd : decode (uC u) pc = .ok (.lcmp, 1)) (h : Run g l u Q (pc + 1) lv (.int (lg_cmp x y) :: st) k n S) : Run g l u Q pc lv (.long y :: .long x :: st) k n S :=
  fun p e s m args below meth c A H locs ls C hW hS hl => W.lcmp C.1 C.2.1 hd (h p e s m args below meth c A H locs ls C hW hS hl)
theorem r_dup2 {g : GG} {l : Launch} {u : MU} {Q : FQ} {pc : Nat} {lv : List (Nat × Value)} {st : List Value} {k n : Nat} {S : Mem} {va vb : Value} (hd : decode (uC u) pc = .ok (.dup2, 1)) (hva : va.category = 1) (hvb : vb.category = 1) (h : Run g l u Q (pc + 1) lv (va :: vb :: va :: vb :: st) k n S) : Run g l u Q pc lv (va :: vb :: st) k n S :=
  fun p e s m args below meth c A H locs ls C hW hS hl => lv_dup2_11 C.1 C.2.1 hd hva hvb (h p e s m args below meth c A H locs ls C hW hS hl)
theorem r_ldcf {g : GG} {l : Launch} {u : MU} {Q : FQ} {pc : Nat} {lv : List (Nat × Value)} {st : List Value} {k n : Nat} {S : Mem} {index : Nat} {v : UInt32} (hd : decode (uC u) pc = .ok (.ldc index, 2)) (hm : Cond.constantFloat (uY u).cls index v ∈ lw_tbl) (h : Run g l u Q (pc + 2) lv (.float v :: st) k n S) : Run g l u Q pc lv st k n S :=
  fun p e s m args below meth c A H locs ls C hW hS hl => lv_ldcf C.1 C.2.1 C.2.2.2.2.1 (Cx_w C hm rfl) hd (h p e s m args below meth c A H locs ls C hW hS hl)
theorem r_ldc2 {g : GG} {l : Launch} {u : MU} {Q : FQ} {pc : Nat} {lv : List (Nat × Value)} {st : List Value} {k n : Nat} {S : Mem} {index : Nat} {v : Int64} (hd : decode (uC u) pc = .ok (.ldc2_w index, 3)) (hm : Cond.constantLong (uY u).cls index v ∈ lw_tbl) (h : Run g l u Q (pc + 3) lv (.long v :: st) k n S) : Run g l u Q pc lv st k n S :=
  fun p e s m args below meth c A H locs ls C hW hS hl => lv_ldc2 C.1 C.2.1 C.2.2.2.2.1 (Cx_w C hm rfl) hd (h p e s m args below meth c A H locs ls C hW hS hl)
end
section
/-! Rules of instructions that read and write the memory. -/
/-- a class of vwCl: number, name, fields, types; its words among the tables' -/
def CF (ci : Nat) (D : String) (T : u_T) (N : Nat) (ty : Nat → FieldType) : Prop :=
  vwCl[ci]? = some (D, T, N) ∧ N = nfT ci ∧ (∀ w ∈ u_ws D T N, w ∈ lw_tbl ∧ gw w = true) ∧ (∀ k, k < N → parseFieldDescriptor (T k).2.2.1 = some (ty k)) ∧ (∀ a, a < N → ∀ b, b < N → a ≠ b → (T a).2.1 ≠ (T b).2.1) ∧ ci < 7
/-- entry idx of own's pool is field k of class ci, final or not, of a type -/
def FL (own : String) (idx ci k : Nat) (f : Bool) (t : FieldType) : Prop :=
  ∃ (D : String) (T : u_T) (N : Nat) (ty : Nat → FieldType), CF ci D T N ty ∧ k < N ∧ (T k).2.2.2 = f ∧ ty k = t ∧
    (Cond.fieldLink own idx (T k).1 (T k).2.1 (T k).2.2.1 ∈ lw_tbl ∨ ∃ host : String, Cond.fieldLinkNest own idx (T k).1 (T k).2.1 (T k).2.2.1 host ∈ lw_tbl)
/-- entry idx of own's pool is a final field of own, by its plain link -/
def FF (own : String) (idx ci k : Nat) (t : FieldType) : Prop :=
  ∃ (D : String) (T : u_T) (N : Nat) (ty : Nat → FieldType), CF ci D T N ty ∧ k < N ∧ (T k).2.2.2 = true ∧ ty k = t ∧ (T k).1 = own ∧ Cond.fieldLink own idx (T k).1 (T k).2.1 (T k).2.2.1 ∈ lw_tbl
section RH
variable {g : GG} {l : Launch} {u : MU} {Q : FQ} {pc : Nat} {lv : List (Nat × Value)} {st : List Value} {k n : Nat} {S : Mem}
theorem r_getV {idx ci j a : Nat} {f : Bool} {t : FieldType} (hd : decode (uC u) pc = .ok (.getfield idx, 3)) (hf : FL (uY u).cls idx ci j f t) (ho : ok S a ci) (h : Run g l u Q (pc + 3) lv (fvM S a ci j :: st) k n S) : Run g l u Q pc lv (.ref a :: st) k n S := by
  intro p e s m args below meth c A H locs ls C hW hS hl
  obtain ⟨D, T, N, ty, ⟨c1, c2, c3, c4, c5, c6⟩, hj, -, -, hlink⟩ := hf
  obtain ⟨q, hq⟩ := mW_get g ho.1
  rw [mCell_o ho.2 c6] at hq
  have hv : (fsM S a ci)[j]? = some (fvM S a ci j) := fsM_get (by rw [← c2]; exact hj)
  rcases hlink with h1 | ⟨host, h1⟩
  · exact va_get (Ts := u_ws D T N) C.1 C.2.1 (fun w hw => Cx_w C (c3 w hw).1 (c3 w hw).2) (fun _ h => h) C.2.2.2.2.1 C.2.2.2.2.2.2.2.2.1.2.2.1 hW.1 q hq c1 j hj (Cx_w C h1 rfl) (fun _ h => h) hv hd (h p e s m args below meth c A H locs ls C hW hS hl)
  · exact va_getN (Ts := u_ws D T N) C.1 C.2.1 (fun w hw => Cx_w C (c3 w hw).1 (c3 w hw).2) (fun _ h => h) C.2.2.2.2.1 C.2.2.2.2.2.2.2.2.1.2.2.1 hW.1 q hq c1 j hj (Cx_w C h1 rfl) (fun _ h => h) hv hd (h p e s m args below meth c A H locs ls C hW hS hl)
theorem r_getI {idx ci j a : Nat} {f : Bool} {t : FieldType} (hd : decode (uC u) pc = .ok (.getfield idx, 3)) (hf : FL (uY u).cls idx ci j f t) (hr : rfT ci j = false) (ho : ok S a ci) (h : Run g l u Q (pc + 3) lv (.int (mI S a j) :: st) k n S) : Run g l u Q pc lv (.ref a :: st) k n S := by
  refine r_getV hd hf ho ?_
  rw [show fvM S a ci j = .int (mI S a j) by simp [fvM, hr]]
  exact h
theorem r_getR {idx ci j a b : Nat} {f : Bool} {t : FieldType} (hd : decode (uC u) pc = .ok (.getfield idx, 3)) (hf : FL (uY u).cls idx ci j f t) (hr : rfT ci j = true) (ho : ok S a ci) (hv : mR S a j = some b) (h : Run g l u Q (pc + 3) lv (.ref b :: st) k n S) : Run g l u Q pc lv (.ref a :: st) k n S := by
  refine r_getV hd hf ho ?_
  rw [show fvM S a ci j = .ref b by simp [fvM, hr, hv, va_rf]]
  exact h
/-- a store changes one cell -/
theorem okW_set {A : Nat → Prop} {H H1 : Heap} {s : State} {S' : Mem} {a q : Nat} {ce : va_E} {f : Bool} (hW : okW g A S H s k f) (ha : a ∈ mL S) (hq : (mW g S)[q]? = some (a, mCell g S a)) (hL : mL S' = mL S) (hX : mX S' = mX S) (hc : ∀ b, va_up (mCell g S) a ce b = mCell g S' b) (hP : va_P g.1 vwCl ((mW g S).set q (a, ce)) H1) (hD : va_D A ((mW g S).set q (a, ce))) : okW g A S' H1 s k f := by
  have e := mW_set (S' := S') hW.2.1 ha hq hL hc
  rw [e] at hP hD
  exact ⟨hP, hD, by unfold xk; rw [hL, hX]; exact hW.2.2⟩
theorem cell_sI {a ci j : Nat} (hK : mK S a = ci) (hc : ci < 7) (hr : rfT ci j = false) (v : Int32) (b : Nat) : va_up (mCell g S) a (.inr (ci, (fsM S a ci).set j (.int v))) b = mCell g (sI S a j v) b := by
  by_cases hb : b = a
  · subst hb
    rw [va_up_self, mCell_o (S := sI S b j v) (c := ci) hK hc]
    congr 2
    refine fsM_set ?_ ?_
    · simp [fvM, hr, sI, mI, up2]
    · intro i hi
      simp [fvM, sI, mI, mR, up2, hi]
  · rw [va_up_ne _ _ hb]
    exact (mCell_eq (S := S) (S' := sI S a j v) rfl rfl (up2_row _ _ hb) rfl rfl rfl).symm
theorem cell_sR {a ci j : Nat} (hK : mK S a = ci) (hc : ci < 7) (hr : rfT ci j = true) (v : Option Nat) (b : Nat) : va_up (mCell g S) a (.inr (ci, (fsM S a ci).set j (va_rf v))) b = mCell g (sR S a j v) b := by
  by_cases hb : b = a
  · subst hb
    rw [va_up_self, mCell_o (S := sR S b j v) (c := ci) hK hc]
    congr 2
    refine fsM_set ?_ ?_
    · simp [fvM, hr, sR, mR, up2]
    · intro i hi
      simp [fvM, sR, mI, mR, up2, hi]
  · rw [va_up_ne _ _ hb]
    exact (mCell_eq (S := S) (S' := sR S a j v) rfl rfl rfl (up2_row _ _ hb) rfl rfl).symm
theorem r_putV {idx ci j a : Nat} {t : FieldType} {v : Value} {S' : Mem} (hd : decode (uC u) pc = .ok (.putfield idx, 3)) (hf : FL (uY u).cls idx ci j false t) (hn : narrow t v = v) (hfit : fits t v = true) (ho : ok S a ci)
    (hL : mL S' = mL S) (hX : mX S' = mX S) (hc : ∀ b, va_up (mCell g S) a (.inr (ci, (fsM S a ci).set j v)) b = mCell g S' b) (h : Run g l u Q (pc + 3) lv st k n S') : Run g l u Q pc lv (v :: .ref a :: st) k n S := by
  intro p e s m args below meth c A H locs ls C hW hS hl
  obtain ⟨D, T, N, ty, ⟨c1, c2, c3, c4, c5, c6⟩, hj, hfin, hty, hlink⟩ := hf
  obtain ⟨q, hq0⟩ := mW_get g ho.1
  have hq := hq0
  rw [mCell_o ho.2 c6] at hq
  have hd2 : parseFieldDescriptor (T j).2.2.1 = some t := by rw [← hty]; exact c4 j hj
  have hlen : j < (fsM S a ci).length := by rw [fsM_len, ← c2]; exact hj
  rcases hlink with h1 | ⟨host, h1⟩
  · exact va_put (Ts := u_ws D T N) C.1 C.2.1 (fun w hw => Cx_w C (c3 w hw).1 (c3 w hw).2) (fun _ h => h) ty c4 c5 C.2.2.2.2.1 C.2.2.2.2.2.2.2.2.1.2.2.1 hW.1 hW.2.1 hS q hq c1 j hj (Cx_w C h1 rfl) (fun _ h => h) hfin hd2 hn hfit hlen hd
      (fun H1 locs1 hP1 hD1 hS1 => h p e s m args below meth c A H1 locs1 ls C (okW_set hW ho.1 hq0 hL hX hc hP1 hD1) hS1 hl)
  · exact va_putN (Ts := u_ws D T N) C.1 C.2.1 (fun w hw => Cx_w C (c3 w hw).1 (c3 w hw).2) (fun _ h => h) ty c4 c5 C.2.2.2.2.1 C.2.2.2.2.2.2.2.2.1.2.2.1 hW.1 hW.2.1 hS q hq c1 j hj (Cx_w C h1 rfl) (fun _ h => h) hfin hd2 hn hfit hlen hd
      (fun H1 locs1 hP1 hD1 hS1 => h p e s m args below meth c A H1 locs1 ls C (okW_set hW ho.1 hq0 hL hX hc hP1 hD1) hS1 hl)
theorem FL_lt {own : String} {idx ci j : Nat} {f : Bool} {t : FieldType} (hf : FL own idx ci j f t) : ci < 7 := by
  obtain ⟨D, T, N, ty, ⟨c1, c2, c3, c4, c5, c6⟩, -⟩ := hf
  exact c6
theorem r_putI {idx ci j a : Nat} {x : Int32} (hd : decode (uC u) pc = .ok (.putfield idx, 3)) (hf : FL (uY u).cls idx ci j false .int) (hr : rfT ci j = false) (ho : ok S a ci) (h : Run g l u Q (pc + 3) lv st k n (sI S a j x)) : Run g l u Q pc lv (.int x :: .ref a :: st) k n S :=
  r_putV (S' := sI S a j x) hd hf rfl rfl ho rfl rfl (cell_sI ho.2 (FL_lt hf) hr x) h
theorem narrow_b {x : Int32} (h : x = 0 ∨ x = 1) : narrow .boolean (.int x) = .int x ∧ fits .boolean (.int x) = true ∧ vp_nar .boolean x = x := by
  rcases h with rfl | rfl <;> exact ⟨by decide, by decide, by decide⟩
theorem r_putZ {idx ci j a : Nat} {x : Int32} (hd : decode (uC u) pc = .ok (.putfield idx, 3)) (hf : FL (uY u).cls idx ci j false .boolean) (hr : rfT ci j = false) (hx : x = 0 ∨ x = 1) (ho : ok S a ci) (h : Run g l u Q (pc + 3) lv st k n (sI S a j x)) : Run g l u Q pc lv (.int x :: .ref a :: st) k n S :=
  r_putV (S' := sI S a j x) hd hf (narrow_b hx).1 (narrow_b hx).2.1 ho rfl rfl (cell_sI ho.2 (FL_lt hf) hr x) h
theorem r_putF {idx ci j a b : Nat} {t : FieldType} (hd : decode (uC u) pc = .ok (.putfield idx, 3)) (hf : FF (uY u).cls idx ci j t) (hi : (uY u).name = "<init>") (hr : rfT ci j = true) (hn : narrow t (.ref b) = .ref b) (hfit : fits t (.ref b) = true) (ho : ok S a ci) (h : Run g l u Q (pc + 3) lv st k n (sR S a j (some b))) : Run g l u Q pc lv (.ref b :: .ref a :: st) k n S := by
  intro p e s m args below meth c A H locs ls C hW hS hl
  obtain ⟨D, T, N, ty, ⟨c1, c2, c3, c4, c5, c6⟩, hj, hfin, hty, hown, h1⟩ := hf
  obtain ⟨q, hq0⟩ := mW_get g ho.1
  have hq := hq0
  rw [mCell_o ho.2 c6] at hq
  have hd2 : parseFieldDescriptor (T j).2.2.1 = some t := by rw [← hty]; exact c4 j hj
  have hlen : j < (fsM S a ci).length := by rw [fsM_len, ← c2]; exact hj
  exact va_putF (Ts := u_ws D T N) C.1 C.2.1 (fun w hw => Cx_w C (c3 w hw).1 (c3 w hw).2) (fun _ h => h) ty c4 c5 C.2.2.2.2.1 C.2.2.2.2.2.2.2.2.1.2.2.1 hW.1 hW.2.1 hS q hq c1 j hj (Cx_w C h1 rfl) (fun _ h => h) hfin (C.2.2.2.2.2.2.1.trans hi) hown hd2 hn hfit hlen hd
      (fun H1 locs1 hP1 hD1 hS1 => h p e s m args below meth c A H1 locs1 ls C (okW_set hW ho.1 hq0 rfl rfl (cell_sR ho.2 c6 hr (some b)) hP1 hD1) hS1 hl)
-- arrays
theorem cell_7 {a j : Nat} (hK : mK S a = 7) (v : Int32) (b : Nat) : va_up (mCell g S) a (.inl (g.2.1 7, mN S a, .inl (upd (mI S a) j v))) b = mCell g (sI S a j v) b := by
  by_cases hb : b = a
  · subst hb
    rw [va_up_self, mCell_7 (S := sI S b j v) hK]
    show _ = Sum.inl (g.2.1 7, mN S b, Sum.inl (up2 (mI S) b j v b))
    rw [up2_at]
    rfl
  · rw [va_up_ne _ _ hb]
    exact (mCell_eq (S := S) (S' := sI S a j v) rfl rfl (up2_row _ _ hb) rfl rfl rfl).symm
theorem cell_8 {a j : Nat} (hK : mK S a = 8) (v : Int32) (b : Nat) : va_up (mCell g S) a (.inl (g.2.1 8, mN S a, .inl (upd (mI S a) j v))) b = mCell g (sI S a j v) b := by
  by_cases hb : b = a
  · subst hb
    rw [va_up_self, mCell_8 (S := sI S b j v) hK]
    show _ = Sum.inl (g.2.1 8, mN S b, Sum.inl (up2 (mI S) b j v b))
    rw [up2_at]
    rfl
  · rw [va_up_ne _ _ hb]
    exact (mCell_eq (S := S) (S' := sI S a j v) rfl rfl (up2_row _ _ hb) rfl rfl rfl).symm
theorem cell_9 {a j : Nat} (hK : mK S a = 9) (v : Option Nat) (b : Nat) : va_up (mCell g S) a (.inl (g.2.1 9, mN S a, .inr (.inr (.inr (.inr (va_up (mR S a) j v)))))) b = mCell g (sR S a j v) b := by
  by_cases hb : b = a
  · subst hb
    rw [va_up_self, mCell_9 (S := sR S b j v) hK]
    show _ = Sum.inl (g.2.1 9, mN S b, Sum.inr (Sum.inr (Sum.inr (Sum.inr (up2 (mR S) b j v b)))))
    rw [up2_at]
  · rw [va_up_ne _ _ hb]
    exact (mCell_eq (S := S) (S' := sR S a j v) rfl rfl rfl (up2_row _ _ hb) rfl rfl).symm
theorem cell_10 {a j : Nat} (hK : mK S a = 10) (v : Int64) (b : Nat) : va_up (mCell g S) a (.inl (g.2.1 10, mN S a, .inr (.inl (vp_updL (mJ S a) j v)))) b = mCell g (sJ S a j v) b := by
  by_cases hb : b = a
  · subst hb
    rw [va_up_self, mCell_10 (S := sJ S b j v) hK]
    show _ = Sum.inl (g.2.1 10, mN S b, Sum.inr (Sum.inl (up2 (mJ S) b j v b)))
    rw [up2_at]
    rfl
  · rw [va_up_ne _ _ hb]
    exact (mCell_eq (S := S) (S' := sJ S a j v) rfl rfl rfl rfl (up2_row _ _ hb) rfl).symm
theorem cell_11 {a j : Nat} (hK : mK S a = 11) (v : UInt64) (b : Nat) : va_up (mCell g S) a (.inl (g.2.1 11, mN S a, .inr (.inr (.inr (.inl (vf_upd (mD S a) j v)))))) b = mCell g (sD S a j v) b := by
  by_cases hb : b = a
  · subst hb
    rw [va_up_self, mCell_11 (S := sD S b j v) hK]
    show _ = Sum.inl (g.2.1 11, mN S b, Sum.inr (Sum.inr (Sum.inr (Sum.inl (up2 (mD S) b j v b)))))
    rw [up2_at]
    rfl
  · rw [va_up_ne _ _ hb]
    exact (mCell_eq (S := S) (S' := sD S a j v) rfl rfl rfl rfl rfl (up2_row _ _ hb)).symm
theorem r_iaload {a : Nat} {i : Int32} (hd : decode (uC u) pc = .ok (.iaload, 1)) (ho : ok S a 7) (hi : vp_in i (mN S a)) (h : Run g l u Q (pc + 1) lv (.int (mI S a i.toNatClampNeg) :: st) k n S) : Run g l u Q pc lv (.int i :: .ref a :: st) k n S := by
  intro p e s m args below meth c A H locs ls C hW hS hl
  obtain ⟨q, hq⟩ := mW_get g ho.1
  rw [mCell_7 ho.2] at hq
  exact va_iald C.1 C.2.1 C.2.2.2.2.2.2.2.2.1.2.2.1 hW.1 q 0 hq rfl hi hd (h p e s m args below meth c A H locs ls C hW hS hl)
theorem r_baload {a : Nat} {i : Int32} (hd : decode (uC u) pc = .ok (.baload, 1)) (ho : ok S a 8) (hi : vp_in i (mN S a)) (h : Run g l u Q (pc + 1) lv (.int (mI S a i.toNatClampNeg) :: st) k n S) : Run g l u Q pc lv (.int i :: .ref a :: st) k n S := by
  intro p e s m args below meth c A H locs ls C hW hS hl
  obtain ⟨q, hq⟩ := mW_get g ho.1
  rw [mCell_8 ho.2] at hq
  exact va_zald C.1 C.2.1 C.2.2.2.2.2.2.2.2.1.2.2.1 hW.1 q 1 hq rfl hi hd (h p e s m args below meth c A H locs ls C hW hS hl)
theorem r_aaload {a b : Nat} {i : Int32} (hd : decode (uC u) pc = .ok (.aaload, 1)) (ho : ok S a 9) (hi : vp_in i (mN S a)) (hv : mR S a i.toNatClampNeg = some b) (h : Run g l u Q (pc + 1) lv (.ref b :: st) k n S) : Run g l u Q pc lv (.int i :: .ref a :: st) k n S := by
  intro p e s m args below meth c A H locs ls C hW hS hl
  obtain ⟨q, hq⟩ := mW_get g ho.1
  rw [mCell_9 ho.2] at hq
  refine va_aldq C.1 C.2.1 C.2.2.2.2.2.2.2.2.1.2.2.1 hW.1 q 2 hq rfl hi hd ?_
  rw [hv]
  exact h p e s m args below meth c A H locs ls C hW hS hl
theorem r_laload {a : Nat} {i : Int32} (hd : decode (uC u) pc = .ok (.laload, 1)) (ho : ok S a 10) (hi : vp_in i (mN S a)) (h : Run g l u Q (pc + 1) lv (.long (mJ S a i.toNatClampNeg) :: st) k n S) : Run g l u Q pc lv (.int i :: .ref a :: st) k n S := by
  intro p e s m args below meth c A H locs ls C hW hS hl
  obtain ⟨q, hq⟩ := mW_get g ho.1
  rw [mCell_10 ho.2] at hq
  exact va_lald C.1 C.2.1 C.2.2.2.2.2.2.2.2.1.2.2.1 hW.1 q 3 hq rfl hi hd (h p e s m args below meth c A H locs ls C hW hS hl)
theorem r_daload {a : Nat} {i : Int32} (hd : decode (uC u) pc = .ok (.daload, 1)) (ho : ok S a 11) (hi : vp_in i (mN S a)) (h : Run g l u Q (pc + 1) lv (.double (mD S a i.toNatClampNeg) :: st) k n S) : Run g l u Q pc lv (.int i :: .ref a :: st) k n S := by
  intro p e s m args below meth c A H locs ls C hW hS hl
  obtain ⟨q, hq⟩ := mW_get g ho.1
  rw [mCell_11 ho.2] at hq
  exact va_dald C.1 C.2.1 C.2.2.2.2.2.2.2.2.1.2.2.1 hW.1 q 4 hq rfl hi hd (h p e s m args below meth c A H locs ls C hW hS hl)
theorem r_iastore {a : Nat} {i x : Int32} (hd : decode (uC u) pc = .ok (.iastore, 1)) (ho : ok S a 7) (hi : vp_in i (mN S a)) (h : Run g l u Q (pc + 1) lv st k n (sI S a i.toNatClampNeg x)) : Run g l u Q pc lv (.int x :: .int i :: .ref a :: st) k n S := by
  intro p e s m args below meth c A H locs ls C hW hS hl
  obtain ⟨q, hq0⟩ := mW_get g ho.1
  have hq := hq0
  rw [mCell_7 ho.2] at hq
  exact va_iast C.1 C.2.1 C.2.2.2.2.2.2.2.2.1.2.2.1 hW.1 hW.2.1 hS q 0 hq rfl hi hd (fun H1 locs1 hP1 hD1 hS1 => h p e s m args below meth c A H1 locs1 ls C (okW_set hW ho.1 hq0 rfl rfl (cell_7 ho.2 x) hP1 hD1) hS1 hl)
theorem r_bastore {a : Nat} {i x : Int32} (hd : decode (uC u) pc = .ok (.bastore, 1)) (ho : ok S a 8) (hi : vp_in i (mN S a)) (hx : x = 0 ∨ x = 1) (h : Run g l u Q (pc + 1) lv st k n (sI S a i.toNatClampNeg x)) : Run g l u Q pc lv (.int x :: .int i :: .ref a :: st) k n S := by
  intro p e s m args below meth c A H locs ls C hW hS hl
  obtain ⟨q, hq0⟩ := mW_get g ho.1
  have hq := hq0
  rw [mCell_8 ho.2] at hq
  refine va_zast C.1 C.2.1 C.2.2.2.2.2.2.2.2.1.2.2.1 hW.1 hW.2.1 hS q 1 hq rfl hi hd (fun H1 locs1 hP1 hD1 hS1 => ?_)
  rw [(narrow_b hx).2.2] at hP1 hD1
  exact h p e s m args below meth c A H1 locs1 ls C (okW_set hW ho.1 hq0 rfl rfl (cell_8 ho.2 x) hP1 hD1) hS1 hl
theorem r_aastore {a b : Nat} {i : Int32} (hd : decode (uC u) pc = .ok (.aastore, 1)) (ho : ok S a 9) (hb : ok S b 4) (hi : vp_in i (mN S a)) (h : Run g l u Q (pc + 1) lv st k n (sR S a i.toNatClampNeg (some b))) : Run g l u Q pc lv (.ref b :: .int i :: .ref a :: st) k n S := by
  intro p e s m args below meth c A H locs ls C hW hS hl
  obtain ⟨q, hq0⟩ := mW_get g ho.1
  obtain ⟨q2, hq2⟩ := mW_get g hb.1
  have hq := hq0
  rw [mCell_9 ho.2] at hq
  rw [mCell_o hb.2 (by decide)] at hq2
  exact va_astq (r := (RX4, TX4, 9)) C.1 C.2.1 C.2.2.2.2.2.2.2.2.1.2.2.1 hW.1 hW.2.1 hS q 2 q2 4 hq rfl hq2 rfl hi hd (fun H1 locs1 hP1 hD1 hS1 => h p e s m args below meth c A H1 locs1 ls C (okW_set hW ho.1 hq0 rfl rfl (cell_9 ho.2 (some b)) hP1 hD1) hS1 hl)
theorem r_lastore {a : Nat} {i : Int32} {x : Int64} (hd : decode (uC u) pc = .ok (.lastore, 1)) (ho : ok S a 10) (hi : vp_in i (mN S a)) (h : Run g l u Q (pc + 1) lv st k n (sJ S a i.toNatClampNeg x)) : Run g l u Q pc lv (.long x :: .int i :: .ref a :: st) k n S := by
  intro p e s m args below meth c A H locs ls C hW hS hl
  obtain ⟨q, hq0⟩ := mW_get g ho.1
  have hq := hq0
  rw [mCell_10 ho.2] at hq
  exact va_last C.1 C.2.1 C.2.2.2.2.2.2.2.2.1.2.2.1 hW.1 hW.2.1 hS q 3 hq rfl hi hd (fun H1 locs1 hP1 hD1 hS1 => h p e s m args below meth c A H1 locs1 ls C (okW_set hW ho.1 hq0 rfl rfl (cell_10 ho.2 x) hP1 hD1) hS1 hl)
theorem r_dastore {a : Nat} {i : Int32} {x : UInt64} (hd : decode (uC u) pc = .ok (.dastore, 1)) (ho : ok S a 11) (hi : vp_in i (mN S a)) (h : Run g l u Q (pc + 1) lv st k n (sD S a i.toNatClampNeg x)) : Run g l u Q pc lv (.double x :: .int i :: .ref a :: st) k n S := by
  intro p e s m args below meth c A H locs ls C hW hS hl
  obtain ⟨q, hq0⟩ := mW_get g ho.1
  have hq := hq0
  rw [mCell_11 ho.2] at hq
  exact va_dast C.1 C.2.1 C.2.2.2.2.2.2.2.2.1.2.2.1 hW.1 hW.2.1 hS q 4 hq rfl hi hd (fun H1 locs1 hP1 hD1 hS1 => h p e s m args below meth c A H1 locs1 ls C (okW_set hW ho.1 hq0 rfl rfl (cell_11 ho.2 x) hP1 hD1) hS1 hl)
end RH
theorem cf0 : CF 0 RX0 TX0 3 tyX0 := ⟨rfl, rfl, by decide +kernel, tyX0_ok, nmX0, by decide⟩
theorem cf1 : CF 1 RX1 TX1 4 tyX1 := ⟨rfl, rfl, by decide +kernel, tyX1_ok, nmX1, by decide⟩
theorem cf2 : CF 2 RX2 TX2 2 tyX2 := ⟨rfl, rfl, by decide +kernel, tyX2_ok, nmX2, by decide⟩
theorem cf3 : CF 3 RX3 TX3 2 tyX3 := ⟨rfl, rfl, by decide +kernel, tyX3_ok, nmX3, by decide⟩
theorem cf4 : CF 4 RX4 TX4 9 tyX4 := ⟨rfl, rfl, by decide +kernel, tyX4_ok, nmX4, by decide⟩
theorem cf5 : CF 5 RX5 TX5 8 tyX5 := ⟨rfl, rfl, by decide +kernel, tyX5_ok, nmX5, by decide⟩
theorem cf6 : CF 6 RX6 TX6 11 tyX6 := ⟨rfl, rfl, by decide +kernel, tyX6_ok, nmX6, by decide⟩
end
section
/-! Answers, calls, throws; what is made; the tables. -/
section RA
variable {g : GG} {l : Launch} {u : MU} {Q : FQ} {pc : Nat} {lv : List (Nat × Value)} {st : List Value} {k n : Nat} {S : Mem}
theorem rQ_of {A : Nat → Prop} {H : Heap} {locs : List Loc} {s : State} {v : Option Value} {mc : Nat} {f : Bool} {args : Array Value} (hW : okW g A S H s mc f) (hS : va_S A s.heap H locs) (t : State) (ht : t.heap = H) : rQ g A (.inl v) S mc f args s (.returned v) t :=
  ⟨rfl, by rw [ht]; exact hW, hS.F ht⟩
theorem xk_mc {f : Bool} {s : State} {k mc : Nat} (h : xk f s k S) (hk : if f = true then k = mc else k ≤ mc) : xk f s mc S := by
  cases f with
  | false => exact ⟨h.1, fun q => by cases q⟩
  | true =>
    have e : k = mc := by simpa using hk
    rw [← e]
    exact h
theorem r_ireturn {v : Int32} {ty : FieldType} (hd : decode (uC u) pc = .ok (.ireturn, 1)) (hr : uT u = some ty) (hn : narrow ty (.int v) = .int v) (hk : if uF u = true then k = (uR u).cells else k ≤ (uR u).cells) (hs : n ≤ (uR u).slots) : Run g l u (fin g u (.inl (some (.int v))) S) pc lv [.int v] k n S := by
  intro p e s m args below meth c A H locs ls C hW hS hl
  have hk2 : k ≤ (uR u).cells := by
    cases hf : uF u with
    | false => rw [hf] at hk; simpa using hk
    | true => rw [hf] at hk; simp at hk; omega
  refine vx_ret (W.widen hk2 hs ?_)
  exact W.zret C.1 C.2.1 (C.2.2.1.trans hr) hn (fun t ht _ => rQ_of ⟨hW.1, hW.2.1, xk_mc hW.2.2 hk⟩ hS t ht) hS.2.2 hd C.2.2.2.2.2.1
theorem r_return (hd : decode (uC u) pc = .ok (.return_, 1)) (hr : uT u = none) (hk : if uF u = true then k = (uR u).cells else k ≤ (uR u).cells) (hs : n ≤ (uR u).slots) : Run g l u (fin g u (.inl none) S) pc lv [] k n S := by
  intro p e s m args below meth c A H locs ls C hW hS hl
  have hk2 : k ≤ (uR u).cells := by
    cases hf : uF u with
    | false => rw [hf] at hk; simpa using hk
    | true => rw [hf] at hk; simp at hk; omega
  refine vx_ret (W.widen hk2 hs ?_)
  exact W.vret C.1 C.2.1 (C.2.2.1.trans hr) (fun t ht _ => rQ_of ⟨hW.1, hW.2.1, xk_mc hW.2.2 hk⟩ hS t ht) hS.2.2 hd C.2.2.2.2.2.1
theorem r_freturn {v : UInt32} (hd : decode (uC u) pc = .ok (.freturn, 1)) (hr : uT u = some .float) (hk : if uF u = true then k = (uR u).cells else k ≤ (uR u).cells) (hs : n ≤ (uR u).slots) : Run g l u (fin g u (.inl (some (.float v))) S) pc lv [.float v] k n S := by
  intro p e s m args below meth c A H locs ls C hW hS hl
  have hk2 : k ≤ (uR u).cells := by
    cases hf : uF u with
    | false => rw [hf] at hk; simpa using hk
    | true => rw [hf] at hk; simp at hk; omega
  refine vx_ret (W.widen hk2 hs ?_)
  exact W.fret C.1 C.2.1 (C.2.2.1.trans hr) (fun t ht _ => rQ_of ⟨hW.1, hW.2.1, xk_mc hW.2.2 hk⟩ hS t ht) hS.2.2 hd C.2.2.2.2.2.1
theorem r_areturn {b : Nat} {nm : String} (hd : decode (uC u) pc = .ok (.areturn, 1)) (hr : uT u = some (.object nm)) (hk : if uF u = true then k = (uR u).cells else k ≤ (uR u).cells) (hs : n ≤ (uR u).slots) : Run g l u (fin g u (.inl (some (.ref b))) S) pc lv [.ref b] k n S := by
  intro p e s m args below meth c A H locs ls C hW hS hl
  have hk2 : k ≤ (uR u).cells := by
    cases hf : uF u with
    | false => rw [hf] at hk; simpa using hk
    | true => rw [hf] at hk; simp at hk; omega
  refine vx_ret (W.widen hk2 hs ?_)
  exact W.aret C.1 C.2.1 (C.2.2.1.trans hr) (Or.inl ⟨_, rfl⟩) (Or.inr ⟨_, rfl⟩) (fun t ht _ => rQ_of ⟨hW.1, hW.2.1, xk_mc hW.2.2 hk⟩ hS t ht) hS.2.2 hd C.2.2.2.2.2.1
end RA
/-! contracts -/
def cP (g : GG) (av : List Value) (S : Mem) (sz : Nat) (f : Bool) : Array Value → State → Prop := fun v U =>
  v = av.toArray ∧ U.heap.size = sz ∧ va_P g.1 vwCl (mW g S) U.heap ∧ va_D (fun _ => True) (mW g S) ∧ Gd g (va_A (mW g S) sz) U U.heap ∧ xk f U 0 S
/-- the method, called with av over S, ends with r over S' -/
def Call (g : GG) (l : Launch) (u : MU) (av : List Value) (S : Mem) (r : Option Value ⊕ String) (S' : Mem) : Prop :=
  ∀ sz, vx_Met l (uY u) [.code (uY u) (uC u) (uN u) (uT u)] (uR u) (cP g av S sz (uF u)) (rQ g (va_A (mW g S) sz) r S' (uR u).cells (uF u)) (rX g (va_A (mW g S) sz) r S' (uR u).cells (uF u)) (uR u).cells (uR u).slots (va_A (mW g S) sz)
/-- .. a method with a table of handlers -/
def CallT (g : GG) (l : Launch) (u : MU) (av : List Value) (S : Mem) (r : Option Value ⊕ String) (S' : Mem) : Prop :=
  ∀ sz, vx_Met l (uY u) [.codeWith (uY u) (uC u) (uN u) (uT u) (uH u)] (uR u) (cP g av S sz (uF u)) (rQ g (va_A (mW g S) sz) r S' (uR u).cells (uF u)) (rX g (va_A (mW g S) sz) r S' (uR u).cells (uF u)) (uR u).cells (uR u).slots (va_A (mW g S) sz)
theorem call_of {g : GG} {l : Launch} {u : MU} {av : List Value} {S S' : Mem} {r : Option Value ⊕ String} (hy : plainName (uY u).cls = true) (hst : l.stackTraces = false) (hH : uH u = []) (hn : (lg_sl av).length ≤ uN u) (h : Run g l u (fin g u r S') 0 (lv_args 0 av) [] 0 0 S) : Call g l u av S r S' := by
  intro sz
  refine vx_ofW (cc := uC u) (maxL := uN u) (ret := uT u) hy rfl ?_
  intro p e s m args below meth c s₁ B hml htb hv
  obtain ⟨rfl, rfl, hP, hD0, hG, hX⟩ := hv
  have hl := lv_entry av (n := uN u) hn
  rw [lg_entry_eq]
  have ht : c.exceptionTable.toList = [] := by
    cases hc : c.exceptionTable.toList with
    | nil => rfl
    | cons x r => exact (htb x (by rw [hc]; exact List.mem_cons_self)).elim
  exact h p e s m _ below meth c _ s.heap [] _ ⟨B.exec, B.bytes, B.returns, hml, findClass_of_methodNamed B.named, B.notSynchronized, (name_of_methodNamed B.named B.method).1, hst, hG, fun q hq => Or.inr hq, by rw [hH, ht]; rfl⟩ ⟨hP, hD0.self, hX⟩ va_S.rf hl
theorem callT_of {g : GG} {l : Launch} {u : MU} {av : List Value} {S S' : Mem} {r : Option Value ⊕ String} (hy : plainName (uY u).cls = true) (hst : l.stackTraces = false) (hn : (lg_sl av).length ≤ uN u) (h : Run g l u (fin g u r S') 0 (lv_args 0 av) [] 0 0 S) : CallT g l u av S r S' := by
  intro sz
  refine vx_ofWH (cc := uC u) (maxL := uN u) (ret := uT u) (hh := uH u) hy rfl ?_
  intro p e s m args below meth c s₁ B hml hv
  obtain ⟨rfl, rfl, hP, hD0, hG, hX⟩ := hv
  have hl := lv_entry av (n := uN u) hn
  rw [lg_entry_eq]
  exact h p e s m _ below meth c _ s.heap [] _ ⟨B.exec, B.bytes, B.returns, hml, findClass_of_methodNamed B.named, B.notSynchronized, (name_of_methodNamed B.named B.method).1, hst, hG, fun q hq => Or.inr hq, vx_table (x := uY u) B (atoms_spec (ws := [.codeWith (uY u) (uC u) (uN u) (uT u) (uH u)]) B.pre _ List.mem_cons_self)⟩ ⟨hP, hD0.self, hX⟩ va_S.rf hl

theorem met_of {g : GG} {l : Launch} {u : MU} {av : List Value} {S S' : Mem} {v : Option Value} (h : Call g l u av S (.inl v) S') (sz : Nat) : Met l (uY u) [.code (uY u) (uC u) (uN u) (uT u)] (uR u) (cP g av S sz (uF u)) (rQ g (va_A (mW g S) sz) (.inl v) S' (uR u).cells (uF u)) (uR u).cells (uR u).slots (va_A (mW g S) sz) := by
  intro p e ha hc hk s m args below hf happ hP hK
  obtain ⟨n, o, h1, h2, h3, hQ⟩ := h sz p e ha hc hk s m args below hf happ hP hK
  refine ⟨n, o, h1, h2, h3, ?_⟩
  rcases hQ with hQ | ⟨q, hq, E, ce, L, hx, -⟩
  · exact hQ
  · exact hx.elim
theorem cP_blind {g : GG} {av : List Value} {S : Mem} {sz : Nat} {f : Bool} : FrameBlind (cP g av S sz f) := by
  intro a U g' mk h
  obtain ⟨h1, h2, h3, h4, h5, h6⟩ := h
  exact ⟨h1, h2, h3, h4, Gd_warm (s := U) (U := U.calling g' mk a) (State.WarmedH.refl U) h5, h6⟩
section RC
variable {g : GG} {l : Launch} {u u2 : MU} {Q : FQ} {pc : Nat} {lv : List (Nat × Value)} {st : List Value} {k n : Nat} {S S1 : Mem}
variable {p : Program} {e : Env} {s : State} {m : MethodId} {args : Array Value} {below : List Frame} {meth : Method} {c : Code} {A : Nat → Prop} {H : Heap} {locs : List Loc} {T : State} {R : Room}
theorem free_in (hW : okW g A S H s k (uF u)) (hS : va_S A s.heap H locs) (hA : ∀ q, s.heap.size ≤ q → A q) : ∀ q, va_A (mW g S) H.size q → A q := by
  rintro q (⟨i, ce, hi⟩ | hq)
  · exact hW.2.1.2 i _ hi
  · exact hA q (Nat.le_trans hS.1 hq)
theorem size_of (X : Stand p l e R s m args below meth c T locs k n) (hT : T.heap = H) (hW : okW g A S H s k true) (hS : va_S A s.heap H locs) : H.size = mX S := by
  have h1 := X.heapSize
  rw [hT] at h1
  obtain ⟨h2, h3⟩ := hW.2.2.2 rfl
  have h4 := hS.1
  rcases h3 with h3 | h3
  · omega
  · obtain ⟨q, hq⟩ := mW_get g h3
    have := (hW.1 q _ hq).lt
    dsimp only at this
    omega
theorem pre_of (C : Cx g l u p s m args meth c A) (hW : okW g A S H s k (uF u)) (hS : va_S A s.heap H locs) (hf : uF u2 = uF u) (hz : uF u = true → H.size = mX S) (av : List Value) : ∀ U : State, U.heap = H → s.WarmedH U.vm → cP g av S H.size (uF u2) av.toArray U := by
  intro U hU hWm
  have hA := C.2.2.2.2.2.2.2.2.2.1
  refine ⟨rfl, by rw [hU], by rw [hU]; exact hW.1, hW.2.1.weaken (fun _ _ _ _ => trivial), ?_, ?_, ?_⟩
  · rw [hU]
    exact Gd_narrow (Gd_kept (Gd_warm hWm C.2.2.2.2.2.2.2.2.1) hS.2.1) (free_in hW hS hA)
  · intro q
    rw [hf] at q
    exact hW.2.2.1 q
  · intro q
    rw [hf] at q
    refine ⟨?_, Or.inl rfl⟩
    rw [hU, hz q]
    rfl
theorem after_call (hf : uF u2 = uF u) (hm : uF u2 = true → 0 < (uR u2).cells) (hz : uF u = true → H.size = mX S) (hW : okW g A S H s k (uF u)) (hS : va_S A s.heap H locs) (hA : ∀ q, s.heap.size ≤ q → A q) {st₀ t : State} (h0 : st₀.heap = H)
    (hq : okW g (va_A (mW g S) H.size) S1 t.heap st₀ (uR u2).cells (uF u2)) : okW g A S1 t.heap s (k + (uR u2).cells) (uF u) := by
  refine ⟨hq.1, hq.2.1.weaken (fun _ _ _ h => free_in hW hS hA _ h), ?_, ?_⟩
  · intro q
    rw [← hf] at q
    exact hq.2.2.1 q
  · intro q
    have hz' := hz q
    have h1 := (hW.2.2.2 q).1
    rw [← hf] at q
    obtain ⟨h2, h3⟩ := hq.2.2.2 q
    rw [h0] at h2
    refine ⟨by omega, Or.inr ?_⟩
    rcases h3 with h3 | h3
    · have := hm q; omega
    · exact h3
/-- entry idx of own's pool is the method u2, of np parameters -/
def LK (own : String) (idx : Nat) (u2 : MU) (np : Nat) : Prop :=
  Cond.methodLink own idx (uY u2) ∈ lw_tbl ∧ Cond.initialized (uY u2).cls ∈ lw_tbl ∧ ((uY u2).cls ≠ "java/lang/invoke/MethodHandle" ∧ (uY u2).cls ≠ "java/lang/invoke/VarHandle") ∧ (parseMethodDescriptor (uY u2).desc).map (fun d => d.parameters.length) = some np ∧ Cond.code (uY u2) (uC u2) (uN u2) (uT u2) ∈ lw_tbl
def LV (own : String) (idx : Nat) (u2 : MU) (np : Nat) (ci : Nat) : Prop :=
  LK own idx u2 np ∧ Cond.instanceMethod (uY u2) ∈ lw_tbl ∧ Cond.selects (uY u2).cls (uY u2) (uY u2) ∈ lw_tbl ∧ ci < 7 ∧ ∃ T N, vwCl[ci]? = some ((uY u2).cls, T, N)
def LSt (own : String) (idx : Nat) (u2 : MU) (np : Nat) : Prop := LK own idx u2 np ∧ Cond.static (uY u2) ∈ lw_tbl
def LI (own : String) (idx : Nat) (u2 : MU) (np : Nat) : Prop := LK own idx u2 np ∧ (uY u2).name = "<init>" ∧ uT u2 = none ∧ Cond.instanceMethod (uY u2) ∈ lw_tbl
def LN (own : String) (idx : Nat) (u2 : MU) (np : Nat) : Prop :=
  ∃ host : String, Cond.methodLinkNest own idx (uY u2) host ∈ lw_tbl ∧ Cond.initialized (uY u2).cls ∈ lw_tbl ∧ ((uY u2).cls ≠ "java/lang/invoke/MethodHandle" ∧ (uY u2).cls ≠ "java/lang/invoke/VarHandle") ∧ (parseMethodDescriptor (uY u2).desc).map (fun d => d.parameters.length) = some np ∧ Cond.code (uY u2) (uC u2) (uN u2) (uT u2) ∈ lw_tbl ∧ Cond.static (uY u2) ∈ lw_tbl
/-- the callee's room is in the caller's -/
def RM (u u2 : MU) (k n : Nat) : Prop := (uR u2).frames + 1 ≤ (uR u).frames ∧ 8 + (uN u2 + 11) + (uR u2).locals ≤ (uR u).locals ∧ k + (uR u2).cells ≤ (uR u).cells ∧ n + (uR u2).slots ≤ (uR u).slots ∧ uF u2 = uF u ∧ (uF u2 = true → 0 < (uR u2).cells)
theorem callB (C : Cx g l u p s m args meth c A) {idx np : Nat} (h : LK (uY u).cls idx u2 np) (hr : RM u u2 k n) : CallB (uR u) s args (uY u).cls idx (uY u2) (uC u2) (uN u2) (uT u2) [.code (uY u2) (uC u2) (uN u2) (uT u2)] (uR u2) (uR u2).cells (uR u2).slots np := by
  obtain ⟨h1, h2, h3, h4, h5⟩ := h
  obtain ⟨r1, r2, r3, r4, -⟩ := hr
  refine ⟨rfl, rfl, r1, r2, ?_, List.mem_cons_self, Cx_w C h5 rfl, Cx_w C h2 rfl, h3, ?_, Cx_w C h1 rfl⟩
  · intro w hw a' U hWm
    rw [List.mem_singleton.mp hw]
    exact gw_warm (w := Cond.code (uY u2) (uC u2) (uN u2) (uT u2)) rfl hWm (C.2.2.2.2.2.2.2.2.1.1 _ h5 rfl) a'
  · intro sig hs
    rw [hs] at h4
    exact (Option.some.inj h4).symm
theorem rcv_of (C : Cx g l u p s m args meth c A) (hW : okW g A S H s k (uF u)) {idx np ci b : Nat} (h : LV (uY u).cls idx u2 np ci) (ho : ok S b ci) : ∃ cell : Cell, H[b]? = some cell ∧ cell.vm.isStatics = false ∧ s.vm.findClass (uY u2).cls = some cell.cls := by
  obtain ⟨-, -, -, hci, T, N, hc⟩ := h
  obtain ⟨q, hq⟩ := mW_get g ho.1
  rw [mCell_o ho.2 hci] at hq
  exact va_recv C.2.2.2.2.2.2.2.2.1.2.2.1 hW.1 hc hq
theorem r_invV {idx np ci b : Nat} {As st0 : List Value} {v : Option Value} (hd : decode (uC u) pc = .ok (.invokevirtual idx, 3)) (hlk : LV (uY u).cls idx u2 np ci) (hr : RM u u2 k n) (hst : (st.map fun v => v.category).sum ≤ 8) (hnp : As.length = np) (h0 : st0 = As.reverse ++ .ref b :: st) (ho : ok S b ci)
    (hc : Call g l u2 (.ref b :: As) S (.inl v) S1) (h : Run g l u Q (pc + 3) lv (v.toList ++ st) (k + (uR u2).cells) (n + (uR u2).slots) S1) : Run g l u Q pc lv st0 k n S := by
  subst h0
  intro p e s m args below meth c A H locs ls C hW hS hl T hT X
  have hz : uF u = true → H.size = mX S := fun q => size_of X hT (by rw [← q]; exact hW) hS
  have hA := C.2.2.2.2.2.2.2.2.2.1
  have hrun := vx_runV (Ts := []) (e := e) (below := below) (meth := meth) (H := H) (locs := locs) (cells := k) (slots := n) (g := F0 m pc ls (As.reverse ++ .ref b :: st)) (rest := st) ⟨C.1, C.2.1, C.2.2.2.1, C.2.2.2.2.1, fun w hw => nomatch hw⟩ (hc H.size) ⟨callB C hlk.1 hr, Cx_w C hlk.2.1 rfl, Cx_w C hlk.2.2.1 rfl⟩ ⟨cP_blind, rcv_of C hW hlk ho, pre_of C hW hS hr.2.2.2.2.1 hz (.ref b :: As)⟩ rfl hnp hl.1 rfl (lv_room hst) hd ⟨hr.2.2.1, hr.2.2.2.1⟩
  rcases hrun T hT X with ⟨v', st₀, t, T', L, h0, X', hL, e1, e2, hq, stp⟩ | ⟨q, st₀, t, T', L, E, ce, h0, X', hL, e1, e2, hx, -⟩
  · obtain ⟨hv, hq, hF⟩ := hq
    cases hv
    obtain ⟨-, -, k3⟩ := vx_keep h0 e1 hS (fun q _ hq => free_in hW hS hA q hq) (free_in hW hS hA) hL hF
    have hok := after_call hr.2.2.2.2.1 hr.2.2.2.2.2 hz hW hS hA h0 hq
    rw [← e1] at hok
    obtain ⟨t2, a1, b1⟩ := h p e s m args below meth c A T'.heap (locs ++ L) ls C hok k3 hl T' rfl X'
    exact ⟨t2, stp t2 a1, b1⟩
  · exact hx.elim
theorem r_invS {idx np : Nat} {As st0 : List Value} {v : Option Value} (hd : decode (uC u) pc = .ok (.invokestatic idx, 3)) (hlk : LSt (uY u).cls idx u2 np) (hr : RM u u2 k n) (hst : (st.map fun v => v.category).sum ≤ 8) (hnp : As.length = np) (h0 : st0 = As.reverse ++ st)
    (hc : Call g l u2 As S (.inl v) S1) (h : Run g l u Q (pc + 3) lv (v.toList ++ st) (k + (uR u2).cells) (n + (uR u2).slots) S1) : Run g l u Q pc lv st0 k n S := by
  subst h0
  intro p e s m args below meth c A H locs ls C hW hS hl T hT X
  have hz : uF u = true → H.size = mX S := fun q => size_of X hT (by rw [← q]; exact hW) hS
  have hA := C.2.2.2.2.2.2.2.2.2.1
  have hrun := vx_runS (Ts := []) (e := e) (below := below) (meth := meth) (H := H) (locs := locs) (cells := k) (slots := n) (g := F0 m pc ls (As.reverse ++ st)) (rest := st) ⟨C.1, C.2.1, C.2.2.2.1, C.2.2.2.2.1, fun w hw => nomatch hw⟩ (hc H.size) ⟨callB C hlk.1 hr, Cx_w C hlk.2 rfl⟩ ⟨cP_blind, pre_of C hW hS hr.2.2.2.2.1 hz As⟩ rfl hnp hl.1 rfl (lv_room hst) hd ⟨hr.2.2.1, hr.2.2.2.1⟩
  rcases hrun T hT X with ⟨v', st₀, t, T', L, h0, X', hL, e1, e2, hq, stp⟩ | ⟨q, st₀, t, T', L, E, ce, h0, X', hL, e1, e2, hx, -⟩
  · obtain ⟨hv, hq, hF⟩ := hq
    cases hv
    obtain ⟨-, -, k3⟩ := vx_keep h0 e1 hS (fun q _ hq => free_in hW hS hA q hq) (free_in hW hS hA) hL hF
    have hok := after_call hr.2.2.2.2.1 hr.2.2.2.2.2 hz hW hS hA h0 hq
    rw [← e1] at hok
    obtain ⟨t2, a1, b1⟩ := h p e s m args below meth c A T'.heap (locs ++ L) ls C hok k3 hl T' rfl X'
    exact ⟨t2, stp t2 a1, b1⟩
  · exact hx.elim
theorem r_invI {idx np b : Nat} {As st0 : List Value} (hd : decode (uC u) pc = .ok (.invokespecial idx, 3)) (hlk : LI (uY u).cls idx u2 np) (hr : RM u u2 k n) (hst : (st.map fun v => v.category).sum ≤ 8) (hnp : As.length = np) (h0 : st0 = As.reverse ++ .ref b :: st)
    (hc : Call g l u2 (.ref b :: As) S (.inl none) S1) (h : Run g l u Q (pc + 3) lv st (k + (uR u2).cells) (n + (uR u2).slots) S1) : Run g l u Q pc lv st0 k n S := by
  subst h0
  intro p e s m args below meth c A H locs ls C hW hS hl T hT X
  have hz : uF u = true → H.size = mX S := fun q => size_of X hT (by rw [← q]; exact hW) hS
  have hA := C.2.2.2.2.2.2.2.2.2.1
  have hcb := callB C hlk.1 hr
  have hmet := met_of hc H.size
  rw [hlk.2.2.1] at hcb hmet
  have hrun := va_runI (Ts := []) (e := e) (below := below) (meth := meth) (H := H) (locs := locs) (cells := k) (slots := n) (g := F0 m pc ls (As.reverse ++ .ref b :: st)) (rest := st) ⟨C.1, C.2.1, C.2.2.2.1, C.2.2.2.2.1, fun w hw => nomatch hw⟩ hmet ⟨hcb, hlk.2.1, Cx_w C hlk.2.2.2 rfl⟩ ⟨cP_blind, pre_of C hW hS hr.2.2.2.2.1 hz (.ref b :: As)⟩ rfl hnp hl.1 rfl (lv_room hst) hd ⟨hr.2.2.1, hr.2.2.2.1⟩
  obtain ⟨v', st₀, t, T', L, h0, X', hL, e1, e2, hq, stp⟩ := hrun T hT X
  obtain ⟨hv, hq, hF⟩ := hq
  cases hv
  obtain ⟨-, -, k3⟩ := vx_keep h0 e1 hS (fun q _ hq => free_in hW hS hA q hq) (free_in hW hS hA) hL hF
  have hok := after_call hr.2.2.2.2.1 hr.2.2.2.2.2 hz hW hS hA h0 hq
  rw [← e1] at hok
  obtain ⟨t2, a1, b1⟩ := h p e s m args below meth c A T'.heap (locs ++ L) ls C hok k3 hl T' rfl X'
  exact ⟨t2, stp t2 a1, b1⟩
theorem r_invN {idx np : Nat} {As st0 : List Value} {v : Option Value} (hd : decode (uC u) pc = .ok (.invokestatic idx, 3)) (hlk : LN (uY u).cls idx u2 np) (hr : RM u u2 k n) (hst : (st.map fun v => v.category).sum ≤ 8) (hnp : As.length = np) (h0 : st0 = As.reverse ++ st)
    (hc : Call g l u2 As S (.inl v) S1) (h : Run g l u Q (pc + 3) lv (v.toList ++ st) (k + (uR u2).cells) (n + (uR u2).slots) S1) : Run g l u Q pc lv st0 k n S := by
  subst h0
  intro p e s m args below meth c A H locs ls C hW hS hl T hT X
  have hz : uF u = true → H.size = mX S := fun q => size_of X hT (by rw [← q]; exact hW) hS
  have hA := C.2.2.2.2.2.2.2.2.2.1
  obtain ⟨host, h1, h2, h3, h4, h5, h6⟩ := hlk
  have hrun := va_runSN (Ts := []) (e := e) (below := below) (meth := meth) (H := H) (locs := locs) (cells := k) (slots := n) (g := F0 m pc ls (As.reverse ++ st)) (rest := st) (n := np) ⟨C.1, C.2.1, C.2.2.2.1, C.2.2.2.2.1, fun w hw => nomatch hw⟩ (met_of hc H.size)
    ⟨⟨⟨rfl, rfl, hr.1, hr.2.1, fun w hw a' U hWm => by
        rw [List.mem_singleton.mp hw]
        exact gw_warm (w := Cond.code (uY u2) (uC u2) (uN u2) (uT u2)) rfl hWm (C.2.2.2.2.2.2.2.2.1.1 _ h5 rfl) a', List.mem_cons_self⟩, Cx_w C h5 rfl, Cx_w C h2 rfl, h3, fun sig hs => by
        rw [hs] at h4
        exact (Option.some.inj h4).symm, Cx_w C h1 rfl⟩, Cx_w C h6 rfl, trivial⟩ ⟨cP_blind, pre_of C hW hS hr.2.2.2.2.1 hz As⟩ rfl hnp hl.1 rfl (lv_room hst) hd ⟨hr.2.2.1, hr.2.2.2.1⟩
  obtain ⟨v', st₀, t, T', L, h0, X', hL, e1, e2, hq, stp⟩ := hrun T hT X
  obtain ⟨hv, hq, hF⟩ := hq
  cases hv
  obtain ⟨-, -, k3⟩ := vx_keep h0 e1 hS (fun q _ hq => free_in hW hS hA q hq) (free_in hW hS hA) hL hF
  have hok := after_call hr.2.2.2.2.1 hr.2.2.2.2.2 hz hW hS hA h0 hq
  rw [← e1] at hok
  obtain ⟨t2, a1, b1⟩ := h p e s m args below meth c A T'.heap (locs ++ L) ls C hok k3 hl T' rfl X'
  exact ⟨t2, stp t2 a1, b1⟩
end RC
end
section
/-! Throws and their catching; tables; what is made; arraycopy; Math. -/
def exN : List String := ["java/lang/RuntimeException", "java/lang/Exception"]
theorem gw_ot {w : Cond} (h : gw w = true) : vx_ot w = true := by
  rcases Bool.or_eq_true_iff.mp h with h1 | h1
  · simp [vx_ot, h1]
  · cases w <;> first | (simp [nestWord] at h1; done) | rfl
/-- what the tables say of 'throw new E(text)' -/
def TW (ik ic : Nat) (cls : String) : Prop := Bundle.fit cls = true ∧ Cond.classLink RX5 ik cls ∈ lw_tbl ∧ Cond.initialized cls ∈ lw_tbl ∧ ∀ w ∈ vx_atS RX5 ic cls exN, w ∈ lw_tbl ∧ gw w = true
section RX
variable {g : GG} {l : Launch} {u u2 : MU} {Q : FQ} {pc : Nat} {lv : List (Nat × Value)} {st : List Value} {k n : Nat} {S S1 : Mem}
theorem exN_fit : ∀ x ∈ exN, Bundle.fit x = true := by decide +kernel
theorem thrown_ok {A : Nat → Prop} {H : Heap} {locs : List Loc} {s : State} {cls : String} {mc : Nat} (hf : uF u = false) (hW : okW g A S H s k (uF u)) (hS : va_S A s.heap H locs) (t : State) (h1 : H.size ≤ t.heap.size) (h2 : ∀ q : Nat, q < H.size → t.heap[q]? = H[q]?) : rX g A (.inr cls) S mc (uF u) cls s t := by
  refine ⟨rfl, ⟨hW.1.kept (fun i x hx => h2 x.1 (hW.1 i x hx).lt), hW.2.1, hW.2.2.1, fun q => absurd (hf.symm.trans q) (by decide)⟩, Nat.le_trans hS.1 h1, fun q hq hn => ?_⟩
  rw [h2 q (Nat.lt_of_lt_of_le hq hS.1)]
  exact hS.2.1 q hq hn
theorem r_throwS {cls text : String} {ik is ic : Nat} (hw : TW ik ic cls) (hown : (uY u).cls = RX5) (hstr : (is, text) ∈ strT)
    (d0 : decode (uC u) pc = .ok (.new ik, 3)) (d3 : decode (uC u) (pc + 3) = .ok (.dup, 1)) (d4 : decode (uC u) (pc + 4) = .ok (.ldc is, 2)) (d6 : decode (uC u) (pc + 6) = .ok (.invokespecial ic, 3)) (d9 : decode (uC u) (pc + 9) = .ok (.athrow, 1))
    (hH : uH u = []) (hf : uF u = false) (hRf : 5 < (uR u).frames) (hRl : (st.map fun v => v.category).sum + 82 ≤ (uR u).locals) (hc : k + 1 ≤ (uR u).cells) (hs : n + 6 ≤ (uR u).slots) : Run g l u (fin g u (.inr cls) S) pc lv st k n S := by
  intro p e s m args below meth c A H locs ls C hW hS hl
  obtain ⟨t1, t2, t3, t4⟩ := hw
  have hG := C.2.2.2.2.2.2.2.2.1
  obtain ⟨sa, hsa⟩ := hG.2.1 _ hstr
  have hown' : s.vm.findClass RX5 = some m.cls := by rw [← hown]; exact C.2.2.2.2.1
  refine vx_throwS (names := exN) (sa := sa) (ik := ik) (is := is) (ic := ic) (text := text) (A := A) C.1 C.2.1 C.2.2.2.2.2.2.2.1 hown' t1 exN_fit (Cx_w C t2 rfl) (Cx_w C t3 rfl) hsa (fun w hw => Cx_w C (t4 w hw).1 (t4 w hw).2) ?_ hG.2.2.2.1.1 hG.2.2.2.1.2 hS (by rw [hl.1]; exact C.2.2.2.1.symm) d0 d3 d4 d6 d9 ?_ hRf hRl hc hs C.2.2.2.2.2.1 (fun t _ h1 h2 => thrown_ok hf hW hS t h1 h2) hS.2.2 hc hs
  · intro w hw
    rcases List.mem_cons.mp hw with rfl | hw
    · rfl
    · rcases List.mem_cons.mp hw with rfl | hw
      · rfl
      · exact gw_ot (t4 w hw).2
  · intro x hx
    rw [C.2.2.2.2.2.2.2.2.2.2, hH] at hx
    cases hx
theorem r_throwSW {cls text : String} {ik is ic : Nat} (hw : TW ik ic cls) (hown : (uY u).cls = RX5) (hstr : (is, text) ∈ strT)
    (d0 : decode (uC u) pc = .ok (.new ik, 3)) (d3 : decode (uC u) (pc + 3) = .ok (.dup, 1)) (d4 : decode (uC u) (pc + 4) = .ok (.ldc_w is, 3)) (d7 : decode (uC u) (pc + 7) = .ok (.invokespecial ic, 3)) (d10 : decode (uC u) (pc + 10) = .ok (.athrow, 1))
    (hH : uH u = []) (hf : uF u = false) (hRf : 5 < (uR u).frames) (hRl : (st.map fun v => v.category).sum + 82 ≤ (uR u).locals) (hc : k + 1 ≤ (uR u).cells) (hs : n + 6 ≤ (uR u).slots) : Run g l u (fin g u (.inr cls) S) pc lv st k n S := by
  intro p e s m args below meth c A H locs ls C hW hS hl
  obtain ⟨t1, t2, t3, t4⟩ := hw
  have hG := C.2.2.2.2.2.2.2.2.1
  obtain ⟨sa, hsa⟩ := hG.2.1 _ hstr
  have hown' : s.vm.findClass RX5 = some m.cls := by rw [← hown]; exact C.2.2.2.2.1
  refine vx_throwSW (names := exN) (sa := sa) (ik := ik) (is := is) (ic := ic) (text := text) (A := A) C.1 C.2.1 C.2.2.2.2.2.2.2.1 hown' t1 exN_fit (Cx_w C t2 rfl) (Cx_w C t3 rfl) hsa (fun w hw => Cx_w C (t4 w hw).1 (t4 w hw).2) ?_ hG.2.2.2.1.1 hG.2.2.2.1.2 hS (by rw [hl.1]; exact C.2.2.2.1.symm) d0 d3 d4 d7 d10 ?_ hRf hRl hc hs C.2.2.2.2.2.1 (fun t _ h1 h2 => thrown_ok hf hW hS t h1 h2) hS.2.2 hc hs
  · intro w hw
    rcases List.mem_cons.mp hw with rfl | hw
    · rfl
    · rcases List.mem_cons.mp hw with rfl | hw
      · rfl
      · exact gw_ot (t4 w hw).2
  · intro x hx
    rw [C.2.2.2.2.2.2.2.2.2.2, hH] at hx
    cases hx
/-- what is thrown by the callee goes on to the caller -/
theorem r_invV_x {idx np ci b : Nat} {As st0 : List Value} {E : String} (hd : decode (uC u) pc = .ok (.invokevirtual idx, 3)) (hlk : LV (uY u).cls idx u2 np ci) (hr : RM u u2 k n) (hst : (st.map fun v => v.category).sum ≤ 8) (hnp : As.length = np) (h0 : st0 = As.reverse ++ .ref b :: st) (ho : ok S b ci)
    (hH : uH u = []) (hf : uF u = false) (hc : Call g l u2 (.ref b :: As) S (.inr E) S1) : Run g l u (fin g u (.inr E) S1) pc lv st0 k n S := by
  subst h0
  intro p e s m args below meth c A H locs ls C hW hS hl T hT X
  have hz : uF u = true → H.size = mX S := fun q => absurd (hf.symm.trans q) (by decide)
  have hA := C.2.2.2.2.2.2.2.2.2.1
  have hrun := vx_runV (Ts := []) (e := e) (below := below) (meth := meth) (H := H) (locs := locs) (cells := k) (slots := n) (g := F0 m pc ls (As.reverse ++ .ref b :: st)) (rest := st) ⟨C.1, C.2.1, C.2.2.2.1, C.2.2.2.2.1, fun w hw => nomatch hw⟩ (hc H.size) ⟨callB C hlk.1 hr, Cx_w C hlk.2.1 rfl, Cx_w C hlk.2.2.1 rfl⟩ ⟨cP_blind, rcv_of C hW hlk ho, pre_of C hW hS hr.2.2.2.2.1 hz (.ref b :: As)⟩ rfl hnp hl.1 rfl (lv_room hst) hd ⟨hr.2.2.1, hr.2.2.2.1⟩
  rcases hrun T hT X with ⟨v', st₀, t, T', L, h0, X', hL, e1, e2, hq, stp⟩ | ⟨q, st₀, t, T', L, E', ce, h0, X', hL, e1, e2, hx, hce, hcv, hcl, stp⟩
  · exact hq.elim
  · obtain ⟨rfl, hq, hF⟩ := hx
    obtain ⟨-, -, k3⟩ := vx_keep h0 e1 hS (fun q _ hq => free_in hW hS hA q hq) (free_in hW hS hA) hL hF
    have hok := after_call hr.2.2.2.2.1 hr.2.2.2.2.2 hz hW hS hA h0 hq
    rw [← e1] at hok
    have hout := vx_out (Qc := rQ g A (.inr E') S1 (uR u).cells (uF u)) (XC := rX g A (.inr E') S1 (uR u).cells (uF u)) (free := A) (ls := ls) (rest := st) (pc := pc) (e := e) (below := below) (args := args) (R := uR u) (l := l) (p := p) (locs := locs ++ L) (cells := k + (uR u2).cells) (slots := n + (uR u2).slots) (H := T'.heap) (m := m) (meth := meth) (c := c) (s := s) (mc := (uR u).cells) (ms := (uR u).slots)
      (fun x hx => by rw [C.2.2.2.2.2.2.2.2.2.2, hH] at hx; cases hx) C.2.2.2.2.2.1 (by rw [e1]; exact hce) hcv hcl (fun t2 ht2 _ => ⟨rfl, by rw [ht2]; exact ⟨hok.1, hok.2.1, hok.2.2.1, fun q => absurd (hf.symm.trans q) (by decide)⟩, k3.F ht2⟩) k3.2.2 hr.2.2.1 hr.2.2.2.1
    obtain ⟨t2, a1, b1⟩ := hout T' rfl X'
    exact ⟨t2, stp.trans a1, b1⟩
theorem r_invS_x {idx np : Nat} {As st0 : List Value} {E : String} (hd : decode (uC u) pc = .ok (.invokestatic idx, 3)) (hlk : LSt (uY u).cls idx u2 np) (hr : RM u u2 k n) (hst : (st.map fun v => v.category).sum ≤ 8) (hnp : As.length = np) (h0 : st0 = As.reverse ++ st)
    (hH : uH u = []) (hf : uF u = false) (hc : Call g l u2 As S (.inr E) S1) : Run g l u (fin g u (.inr E) S1) pc lv st0 k n S := by
  subst h0
  intro p e s m args below meth c A H locs ls C hW hS hl T hT X
  have hz : uF u = true → H.size = mX S := fun q => absurd (hf.symm.trans q) (by decide)
  have hA := C.2.2.2.2.2.2.2.2.2.1
  have hrun := vx_runS (Ts := []) (e := e) (below := below) (meth := meth) (H := H) (locs := locs) (cells := k) (slots := n) (g := F0 m pc ls (As.reverse ++ st)) (rest := st) ⟨C.1, C.2.1, C.2.2.2.1, C.2.2.2.2.1, fun w hw => nomatch hw⟩ (hc H.size) ⟨callB C hlk.1 hr, Cx_w C hlk.2 rfl⟩ ⟨cP_blind, pre_of C hW hS hr.2.2.2.2.1 hz As⟩ rfl hnp hl.1 rfl (lv_room hst) hd ⟨hr.2.2.1, hr.2.2.2.1⟩
  rcases hrun T hT X with ⟨v', st₀, t, T', L, h0, X', hL, e1, e2, hq, stp⟩ | ⟨q, st₀, t, T', L, E', ce, h0, X', hL, e1, e2, hx, hce, hcv, hcl, stp⟩
  · exact hq.elim
  · obtain ⟨rfl, hq, hF⟩ := hx
    obtain ⟨-, -, k3⟩ := vx_keep h0 e1 hS (fun q _ hq => free_in hW hS hA q hq) (free_in hW hS hA) hL hF
    have hok := after_call hr.2.2.2.2.1 hr.2.2.2.2.2 hz hW hS hA h0 hq
    rw [← e1] at hok
    have hout := vx_out (Qc := rQ g A (.inr E') S1 (uR u).cells (uF u)) (XC := rX g A (.inr E') S1 (uR u).cells (uF u)) (free := A) (ls := ls) (rest := st) (pc := pc) (e := e) (below := below) (args := args) (R := uR u) (l := l) (p := p) (locs := locs ++ L) (cells := k + (uR u2).cells) (slots := n + (uR u2).slots) (H := T'.heap) (m := m) (meth := meth) (c := c) (s := s) (mc := (uR u).cells) (ms := (uR u).slots)
      (fun x hx => by rw [C.2.2.2.2.2.2.2.2.2.2, hH] at hx; cases hx) C.2.2.2.2.2.1 (by rw [e1]; exact hce) hcv hcl (fun t2 ht2 _ => ⟨rfl, by rw [ht2]; exact ⟨hok.1, hok.2.1, hok.2.2.1, fun q => absurd (hf.symm.trans q) (by decide)⟩, k3.F ht2⟩) k3.2.2 hr.2.2.1 hr.2.2.2.1
    obtain ⟨t2, a1, b1⟩ := hout T' rfl X'
    exact ⟨t2, stp.trans a1, b1⟩
/-- what is thrown by the callee is caught here: the thing stands alone on the stack at the handler -/
theorem r_invV_c {idx np ci b : Nat} {As st0 : List Value} {E name : String} (hd : decode (uC u) pc = .ok (.invokevirtual idx, 3)) (hlk : LV (uY u).cls idx u2 np ci) (hr : RM u u2 k n) (hst : (st.map fun v => v.category).sum ≤ 8) (hnp : As.length = np) (h0 : st0 = As.reverse ++ .ref b :: st) (ho : ok S b ci)
    (pre : List (Nat × Nat × Nat × Nat)) (x : Nat × Nat × Nat × Nat) (suf : List (Nat × Nat × Nat × Nat)) (hH : uH u = pre ++ x :: suf) (hp : ∀ z ∈ pre, z.2.2.2 ≠ 0 ∧ ∃ nm, Cond.classLink (uY u).cls z.2.2.2 nm ∈ lw_tbl ∧ (E, nm) ∈ ncT) (hcov : covers ⟨x.1, x.2.1, x.2.2.1, x.2.2.2⟩ pc = true) (hx0 : x.2.2.2 ≠ 0) (hcl0 : Cond.classLink (uY u).cls x.2.2.2 name ∈ lw_tbl) (hcast : Cond.castable E name ∈ lw_tbl)
    (hf : uF u = false) (hc : Call g l u2 (.ref b :: As) S (.inr E) S1) (h : ∀ q : Nat, Run g l u Q x.2.2.1 lv [.ref q] (k + (uR u2).cells) (n + (uR u2).slots) S1) : Run g l u Q pc lv st0 k n S := by
  subst h0
  intro p e s m args below meth c A H locs ls C hW hS hl T hT X
  have hz : uF u = true → H.size = mX S := fun q => absurd (hf.symm.trans q) (by decide)
  have hA := C.2.2.2.2.2.2.2.2.2.1
  have hrun := vx_runV (Ts := []) (e := e) (below := below) (meth := meth) (H := H) (locs := locs) (cells := k) (slots := n) (g := F0 m pc ls (As.reverse ++ .ref b :: st)) (rest := st) ⟨C.1, C.2.1, C.2.2.2.1, C.2.2.2.2.1, fun w hw => nomatch hw⟩ (hc H.size) ⟨callB C hlk.1 hr, Cx_w C hlk.2.1 rfl, Cx_w C hlk.2.2.1 rfl⟩ ⟨cP_blind, rcv_of C hW hlk ho, pre_of C hW hS hr.2.2.2.2.1 hz (.ref b :: As)⟩ rfl hnp hl.1 rfl (lv_room hst) hd ⟨hr.2.2.1, hr.2.2.2.1⟩
  rcases hrun T hT X with ⟨v', st₀, t, T', L, h0, X', hL, e1, e2, hq, stp⟩ | ⟨q, st₀, t, T', L, E', ce, h0, X', hL, e1, e2, hx, hce, hcv, hcl, stp⟩
  · exact hq.elim
  · obtain ⟨rfl, hq, hF⟩ := hx
    obtain ⟨-, -, k3⟩ := vx_keep h0 e1 hS (fun q _ hq => free_in hW hS hA q hq) (free_in hW hS hA) hL hF
    have hok := after_call hr.2.2.2.2.1 hr.2.2.2.2.2 hz hW hS hA h0 hq
    rw [← e1] at hok
    have htab : c.exceptionTable.toList = tableOf pre ++ (⟨x.1, x.2.1, x.2.2.1, x.2.2.2⟩ : ExceptionTableEntry) :: tableOf suf := by
      rw [C.2.2.2.2.2.2.2.2.2.2, hH]
      simp [tableOf]
    have hcat := vx_catch (own := (uY u).cls) (name := name) (E := E') (ce := ce) (q := q) (ls := ls) (rest := st) (pc := pc) (e := e) (below := below) (args := args) (R := uR u) (l := l) (p := p) (locs := locs ++ L) (cells := k + (uR u2).cells) (slots := n + (uR u2).slots) (H := T'.heap) (m := m) (meth := meth) (c := c) (s := s) (Q := Q args below s A) C.2.2.2.2.1 (tableOf pre) ⟨x.1, x.2.1, x.2.2.1, x.2.2.2⟩ (tableOf suf) htab
      (fun z hz => by
        obtain ⟨z0, hz0, rfl⟩ := List.mem_map.mp hz
        obtain ⟨g1, nm, g2, g3⟩ := hp z0 hz0
        exact Or.inr ⟨g1, nm, Cx_w C g2 rfl, C.2.2.2.2.2.2.2.2.1.2.2.2.2.2.2.2 _ g3⟩) hcov hx0 (Cx_w C hcl0 rfl) (Cx_w C hcast rfl) (by rw [e1]; exact hce) hcv hcl
      (h q p e s m args below meth c A T'.heap (locs ++ L) ls C hok k3 hl)
    obtain ⟨t2, a1, b1⟩ := hcat T' rfl X'
    exact ⟨t2, stp.trans a1, b1⟩
-- tables that nobody writes
theorem r_letters {idx : Nat} (hd : decode (uC u) pc = .ok (.getstatic idx, 3)) (hm : Cond.fieldLink (uY u).cls idx RX5 "LETTERS" "[I" ∈ lw_tbl) (h : Run g l u Q (pc + 3) lv (.ref g.2.2.1 :: st) k n S) : Run g l u Q pc lv st k n S :=
  fun p e s m args below meth c A H locs ls C hW hS hl => va_gets C.1 C.2.1 C.2.2.2.2.2.2.2.2.1.2.2.2.2.1.1 hS C.2.2.2.2.1 (Cx_w C hm rfl) (fun _ h => h) hd (h p e s m args below meth c A H locs ls C hW hS hl)
theorem r_lettersN {idx : Nat} {v : Int32} {i : Int32} (hd : decode (uC u) pc = .ok (.iaload, 1)) (hi : vp_in i 4) (hv : letT i.toNatClampNeg = v) (h : Run g l u Q (pc + 1) lv (.int v :: st) k n S) : Run g l u Q pc lv (.int i :: .ref g.2.2.1 :: st) k n S :=
  fun p e s m args below meth c A H locs ls C hW hS hl => va_ti (v := .int v) C.1 C.2.1 C.2.2.2.2.2.2.2.2.1.2.2.2.2.1.2 hS hi (by show Value.int (letT i.toNatClampNeg) = .int v; rw [hv]) hd (h p e s m args below meth c A H locs ls C hW hS hl)
theorem r_lettersL (hd : decode (uC u) pc = .ok (.arraylength, 1)) (h : Run g l u Q (pc + 1) lv (.int 4 :: st) k n S) : Run g l u Q pc lv (.ref g.2.2.1 :: st) k n S :=
  fun p e s m args below meth c A H locs ls C hW hS hl => va_tlen C.1 C.2.1 C.2.2.2.2.2.2.2.2.1.2.2.2.2.1.2 hS rfl hd (h p e s m args below meth c A H locs ls C hW hS hl)
theorem r_scriptN {i : Int32} (hd : decode (uC u) pc = .ok (.iaload, 1)) (hi : vp_in i g.2.2.2.2.1) (h : Run g l u Q (pc + 1) lv (.int (g.2.2.2.2.2 i.toNatClampNeg) :: st) k n S) : Run g l u Q pc lv (.int i :: .ref g.2.2.2.1 :: st) k n S :=
  fun p e s m args below meth c A H locs ls C hW hS hl => va_ti (v := .int (g.2.2.2.2.2 i.toNatClampNeg)) C.1 C.2.1 C.2.2.2.2.2.2.2.2.1.2.2.2.2.2.1 hS hi rfl hd (h p e s m args below meth c A H locs ls C hW hS hl)
theorem r_scriptL (hd : decode (uC u) pc = .ok (.arraylength, 1)) (h : Run g l u Q (pc + 1) lv (.int (Int32.ofNat g.2.2.2.2.1) :: st) k n S) : Run g l u Q pc lv (.ref g.2.2.2.1 :: st) k n S :=
  fun p e s m args below meth c A H locs ls C hW hS hl => va_tlen C.1 C.2.1 C.2.2.2.2.2.2.2.2.1.2.2.2.2.2.1 hS rfl hd (h p e s m args below meth c A H locs ls C hW hS hl)
-- Math
theorem r_max {idx : Nat} {x y : Int32} (hd : decode (uC u) pc = .ok (.invokestatic idx, 3)) (h1 : Cond.methodLink (uY u).cls idx Lib.Math.max.name ∈ lw_tbl) (h2 : Cond.static Lib.Math.max.name ∈ lw_tbl ∧ Cond.initialized "java/lang/Math" ∈ lw_tbl ∧ Cond.code Lib.Math.max.name Lib.Math.max.code 2 (some .int) ∈ lw_tbl) (hf : 1 ≤ (uR u).frames) (hlo : (st.map fun v => v.category).sum + 13 ≤ (uR u).locals) (hc : k ≤ (uR u).cells) (hs : n ≤ (uR u).slots)
    (h : Run g l u Q (pc + 3) lv (.int (if x < y then y else x) :: st) k n S) : Run g l u Q pc lv (.int y :: .int x :: st) k n S :=
  fun p e s m args below meth c A H locs ls C hW hS hl => va_mmax C.1 C.2.1 (by rw [hl.1]; exact C.2.2.2.1) C.2.2.2.2.1 (Cx_w C h1 rfl) (Cx_w C h2.1 rfl) (Cx_w C h2.2.1 rfl) (Cx_w C h2.2.2 rfl) hf hlo hc hs hd (h p e s m args below meth c A H locs ls C hW hS hl)
theorem r_min {idx : Nat} {x y : Int32} (hd : decode (uC u) pc = .ok (.invokestatic idx, 3)) (h1 : Cond.methodLink (uY u).cls idx Lib.Math.min.name ∈ lw_tbl) (h2 : Cond.static Lib.Math.min.name ∈ lw_tbl ∧ Cond.initialized "java/lang/Math" ∈ lw_tbl ∧ Cond.code Lib.Math.min.name Lib.Math.min.code 2 (some .int) ∈ lw_tbl) (hf : 1 ≤ (uR u).frames) (hlo : (st.map fun v => v.category).sum + 13 ≤ (uR u).locals) (hc : k ≤ (uR u).cells) (hs : n ≤ (uR u).slots)
    (h : Run g l u Q (pc + 3) lv (.int (if y < x then y else x) :: st) k n S) : Run g l u Q pc lv (.int y :: .int x :: st) k n S :=
  fun p e s m args below meth c A H locs ls C hW hS hl => va_mmin C.1 C.2.1 (by rw [hl.1]; exact C.2.2.2.1) C.2.2.2.2.1 (Cx_w C h1 rfl) (Cx_w C h2.1 rfl) (Cx_w C h2.2.1 rfl) (Cx_w C h2.2.2 rfl) hf hlo hc hs hd (h p e s m args below meth c A H locs ls C hW hS hl)
theorem w_max : Cond.static Lib.Math.max.name ∈ lw_tbl ∧ Cond.initialized "java/lang/Math" ∈ lw_tbl ∧ Cond.code Lib.Math.max.name Lib.Math.max.code 2 (some .int) ∈ lw_tbl := by decide +kernel
theorem w_min : Cond.static Lib.Math.min.name ∈ lw_tbl ∧ Cond.initialized "java/lang/Math" ∈ lw_tbl ∧ Cond.code Lib.Math.min.name Lib.Math.min.code 2 (some .int) ∈ lw_tbl := by decide +kernel
-- arraycopy of ints
theorem w_copy : Cond.native arraycopyName ∈ lw_tbl ∧ Cond.static arraycopyName ∈ lw_tbl ∧ Cond.initialized "java/lang/System" ∈ lw_tbl := by decide +kernel
theorem cell_F {a : Nat} (hK : mK S a = 7) (f : Nat → Int32) (b : Nat) : va_up (mCell g S) a (.inl (g.2.1 7, mN S a, .inl f)) b = mCell g (sF S a f) b := by
  by_cases hb : b = a
  · subst hb
    rw [va_up_self, mCell_7 (S := sF S b f) hK]
    show _ = Sum.inl (g.2.1 7, mN S b, Sum.inl (va_up (mI S) b f b))
    rw [va_up_self]
  · rw [va_up_ne _ _ hb]
    exact (mCell_eq (S := S) (S' := sF S a f) rfl rfl (va_up_ne _ _ hb) rfl rfl rfl).symm
theorem r_copy {idx a b : Nat} {sp dp cn : Int32} (hd : decode (uC u) pc = .ok (.invokestatic idx, 3)) (h1 : Cond.methodLink (uY u).cls idx arraycopyName ∈ lw_tbl) (hf : 1 ≤ (uR u).frames) (hlo : (st.map fun v => v.category).sum + (nativeFrameWords "java/lang/System" "arraycopy" 5 + 11) ≤ (uR u).locals)
    (ho : ok S a 7) (ho2 : ok S b 7) (p1 : ¬ sp < 0) (p2 : ¬ dp < 0) (p3 : ¬ cn < 0) (p4 : sp.toNatClampNeg + cn.toNatClampNeg ≤ mN S a) (p5 : dp.toNatClampNeg + cn.toNatClampNeg ≤ mN S b)
    (h : Run g l u Q (pc + 3) lv st k n (sF S b (va_cpy (mI S a) (mI S b) sp.toNatClampNeg dp.toNatClampNeg cn.toNatClampNeg))) : Run g l u Q pc lv (.int cn :: .int dp :: .ref b :: .int sp :: .ref a :: st) k n S := by
  intro p e s m args below meth c A H locs ls C hW hS hl
  obtain ⟨q0, hq0⟩ := mW_get g ho.1
  obtain ⟨q1, hq1⟩ := mW_get g ho2.1
  have hq1' := hq1
  rw [mCell_7 ho.2] at hq0
  rw [mCell_7 ho2.2] at hq1'
  exact va_copyi (ty := .int) C.1 C.2.1 (by rw [hl.1]; exact C.2.2.2.1) C.2.2.2.2.1 (Cx_w C h1 rfl) (Cx_w C w_copy.1 rfl) (Cx_w C w_copy.2.1 rfl) (Cx_w C w_copy.2.2 rfl) C.2.2.2.2.2.2.2.2.1.2.2.1 hW.1 hW.2.1 hS q0 q1 0 0 hq0 hq1' rfl rfl rfl p1 p2 p3 p4 p5 (fun _ _ => rfl) hf hlo hd
    (fun H1 locs1 hP1 hD1 hS1 => h p e s m args below meth c A H1 locs1 ls C (okW_set hW ho2.1 hq1 rfl rfl (cell_F ho2.2 _) hP1 hD1) hS1 hl)
-- Object()
theorem r_objInit {idx a : Nat} (hd : decode (uC u) pc = .ok (.invokespecial idx, 3)) (h1 : Cond.methodLink (uY u).cls idx objectInit ∈ lw_tbl) (h2 : Cond.instanceMethod objectInit ∈ lw_tbl ∧ Cond.code objectInit ⟨#[0xb1]⟩ 1 none ∈ lw_tbl) (hf : 1 ≤ (uR u).frames) (hlo : (st.map fun v => v.category).sum + 12 ≤ (uR u).locals)
    (h : Run g l u Q (pc + 3) lv st k n S) : Run g l u Q pc lv (.ref a :: st) k n S :=
  fun p e s m args below meth c A H locs ls C hW hS hl => W.objInit (a := a) (rest := st) C.1 C.2.1 C.2.2.2.2.1 (Cx_w C h1 rfl) (Cx_w C h2.1 rfl) (Cx_w C h2.2 rfl) rfl (by show ls.size = _; rw [hl.1]; exact C.2.2.2.1.symm) rfl hd hf (by show 2 * 0 + _ + 12 ≤ _; omega) (h p e s m args below meth c A H locs ls C hW hS hl)
theorem w_obj : Cond.instanceMethod objectInit ∈ lw_tbl ∧ Cond.code objectInit ⟨#[0xb1]⟩ 1 none ∈ lw_tbl := by decide +kernel
end RX
end
section
/-! What a constructor makes: the next address is known. -/
theorem mW_nw {g : GG} {S : Mem} {c n : Nat} (h : mX S ∉ mL S) : mW g (nw S c n) = mW g S ++ [(mX S, mCell g (nw S c n) (mX S))] := by
  have h1 : mW g S ++ [(mX S, mCell g (nw S c n) (mX S))] = va_pl (mL S ++ [mX S]) (va_up (mCell g S) (mX S) (mCell g (nw S c n) (mX S))) := va_pl_push h
  rw [h1]
  refine va_pl_congr (fun b => ?_)
  by_cases hb : b = mX S
  · rw [hb, va_up_self]
  · rw [va_up_ne _ _ hb]
    exact mCell_eq (S := S) (S' := nw S c n) (va_up_ne _ _ hb) (va_up_ne _ _ hb) (va_up_ne _ _ hb) (va_up_ne _ _ hb) (va_up_ne _ _ hb) (va_up_ne _ _ hb)
/-- entry idx of own's pool is class ci, to be made -/
def NO (own : String) (idx ci : Nat) : Prop :=
  ∃ (D : String) (T : u_T) (N : Nat) (ty : Nat → FieldType), CF ci D T N ty ∧ Cond.classLink own idx D ∈ lw_tbl ∧ Cond.instantiable D N ∈ lw_tbl ∧ Cond.initialized D ∈ lw_tbl ∧ ∀ j, j < N → defaultValue (ty j) = if rfT ci j = true then .null else .int 0
section RN
variable {g : GG} {l : Launch} {u u2 : MU} {Q : FQ} {pc : Nat} {lv : List (Nat × Value)} {st : List Value} {k n : Nat} {S S1 : Mem}
theorem nw_ok {A : Nat → Prop} {H H1 : Heap} {s : State} {c N : Nat} {locs : List Loc} (hz : H.size = mX S) (hW : okW g A S H s k true) (hS : va_S A s.heap H locs) (hA : ∀ q, s.heap.size ≤ q → A q) (z1 : H1.size = mX S + 1) (o1 : ∀ q, q < mX S → H1[q]? = H[q]?) (he : va_at g.1 vwCl (mX S, mCell g (nw S c N) (mX S)) H1) :
    okW g A (nw S c N) H1 s (k + 1) true ∧ va_S A s.heap H1 locs := by
  have hni : mX S ∉ mL S := by
    intro hq
    obtain ⟨i, hi⟩ := mW_get g hq
    have := (hW.1 i _ hi).lt
    dsimp only at this
    omega
  have hk : ∀ (i : Nat) (x : Nat × va_E), (mW g S)[i]? = some x → H1[x.1]? = H[x.1]? := fun i x hx => o1 x.1 (by rw [← hz]; exact (hW.1 i x hx).lt)
  refine ⟨⟨?_, ?_, ?_, ?_⟩, ?_⟩
  · rw [mW_nw hni]
    refine (hW.1.kept hk).app (fun i x hx => ?_)
    have hi : i < 1 := (List.getElem?_eq_some_iff.mp hx).1
    rw [show i = 0 by omega] at hx
    cases hx
    exact he
  · rw [mW_nw hni]
    exact hW.2.1.push hW.1 hz.symm (hA _ (by rw [← hz]; exact hS.1))
  · intro q
    cases q
  · intro _
    have h1 := (hW.2.2.2 rfl).1
    refine ⟨?_, Or.inr ?_⟩
    · show mX S + 1 = _
      omega
    · show mX S + 1 - 1 ∈ mL S ++ [mX S]
      simp
  · refine ⟨?_, fun q h1 h2 => ?_, hS.2.2⟩
    · have := hS.1
      omega
    · have := hS.1
      rw [o1 q (by omega)]
      exact hS.2.1 q h1 h2
theorem r_new {idx ci : Nat} (hd : decode (uC u) pc = .ok (.new idx, 3)) (hn : NO (uY u).cls idx ci) (hf : uF u = true) (hc : k + 1 ≤ (uR u).cells) (hs : n + nfT ci ≤ (uR u).slots) (h : Run g l u Q (pc + 3) lv (.ref (mX S) :: st) (k + 1) (n + nfT ci) (nw S ci 0)) : Run g l u Q pc lv st k n S := by
  intro p e s m args below meth c A H locs ls C hW hS hl T hT X
  have hW' : okW g A S H s k true := by rw [← hf]; exact hW
  have hz := size_of X hT hW' hS
  obtain ⟨D, U, N, ty, ⟨c1, c2, c3, c4, c5, c6⟩, h1, h2, h3, h4⟩ := hn
  have hKn := C.2.2.2.2.2.2.2.2.1.2.2.1.1 ci _ c1
  rw [← c2] at hs h
  suffices hw : W p l e (uR u) s m args below meth c H locs k n (Q args below s A) (F0 m pc ls st) from hw T hT X
  refine W.newcK (h := mX S) (g := F0 m pc ls st) C.1 C.2.1 C.2.2.2.2.1 (Cx_w C h1 rfl) (Cx_w C h2 rfl) (Cx_w C h3 rfl) rfl hd hc hs hKn.2.1 hz (fun H1 kC hkC e1 z1 o1 => ?_)
  have hcell : mCell g (nw S ci 0) (mX S) = .inr (ci, fsM (nw S ci 0) (mX S) ci) := mCell_o (va_up_self _ _ _) c6
  have hnk := nw_ok (c := ci) (N := 0) hz hW' hS C.2.2.2.2.2.2.2.2.2.1 z1 o1 (by
    rw [hcell]
    refine ⟨_, c1, (u_born (ws := u_ws D U N) ty (fun w hw => Cx_w C (c3 w hw).1 (c3 w hw).2) (fun _ h => h) hKn hkC e1 c4).to (fun j hj => ?_)⟩
    rw [h4 j hj]
    have hj2 : j < nfT ci := by rw [← c2]; exact hj
    show _ = vp_V (fsM (nw S ci 0) (mX S) ci) j
    simp only [vp_V, List.getD_eq_getElem?_getD, fsM_get hj2, Option.getD_some, fvM]
    by_cases hr : rfT ci j = true
    · rw [if_pos hr, if_pos hr]
      show _ = va_rf (va_up (mR S) (mX S) (fun _ => none) (mX S) j)
      rw [va_up_self]
      rfl
    · rw [if_neg hr, if_neg hr]
      show _ = Value.int (va_up (mI S) (mX S) (fun _ => 0) (mX S) j)
      rw [va_up_self])
  exact h p e s m args below meth c A H1 locs ls C (by rw [hf]; exact hnk.1) hnk.2 hl
theorem r_newa {at9 : ArrayType} {ty : FieldType} {kd t0 N : Nat} {x : Int32} (hd : decode (uC u) pc = .ok (.newarray at9, 2)) (hty : newarray.typeOf at9 = ty) (hm : Cond.arrayClass ty ∈ lw_tbl) (hk : (tysG g)[t0]? = some (g.2.1 kd, ty)) (hra : ∀ (U : State) (q : ClassId), va_RA U q ty → U.vm.findClass ("[" ++ ty.toString) = some q)
    (hcell : ∀ (S : Mem) (cA : ClassId), cA = g.2.1 kd → va_at g.1 vwCl (mX S, mCell g (nw S kd N) (mX S)) = fun H => H[mX S]? = some (arrV cA N (fun _ => defaultValue ty))) (hx : ¬ x < 0) (hN : x.toNatClampNeg = N) (hb : N * componentBytes ty ≤ 536870912)
    (hf : uF u = true) (hc : k + 1 ≤ (uR u).cells) (hs : n + N ≤ (uR u).slots) (h : Run g l u Q (pc + 2) lv (.ref (mX S) :: st) (k + 1) (n + N) (nw S kd N)) : Run g l u Q pc lv (.int x :: st) k n S := by
  subst hty
  intro p e s m args below meth c A H locs ls C hW hS hl T hT X
  have hW' : okW g A S H s k true := by rw [← hf]; exact hW
  have hz := size_of X hT hW' hS
  suffices hw : W p l e (uR u) s m args below meth c H locs k n (Q args below s A) (F0 m pc ls (.int x :: st)) from hw T hT X
  refine va_newaK (h := mX S) (g := F0 m pc ls (.int x :: st)) (rest := st) C.1 C.2.1 (Cx_w C hm rfl) rfl hd rfl hx hN hb hc hs hz (fun H1 cA e1 z1 o1 hAr hNm => ?_)
  have hcA : cA = g.2.1 kd := by
    have h2 := hra s _ (C.2.2.2.2.2.2.2.2.1.2.2.1.2 t0 _ hk).2
    exact Option.some.inj (hNm.symm.trans h2)
  have hnk := nw_ok (c := kd) (N := N) hz hW' hS C.2.2.2.2.2.2.2.2.2.1 z1 o1 (by rw [hcell S cA hcA]; exact e1)
  exact h p e s m args below meth c A H1 locs ls C (by rw [hf]; exact hnk.1) hnk.2 hl
theorem cell_nw {S : Mem} {c N : Nat} : mK (nw S c N) (mX S) = c ∧ mN (nw S c N) (mX S) = N ∧ mI (nw S c N) (mX S) = (fun _ => 0) ∧ mR (nw S c N) (mX S) = (fun _ => none) ∧ mJ (nw S c N) (mX S) = (fun _ => 0) ∧ mD (nw S c N) (mX S) = (fun _ => 0) :=
  ⟨va_up_self _ _ _, va_up_self _ _ _, va_up_self _ _ _, va_up_self _ _ _, va_up_self _ _ _, va_up_self _ _ _⟩
theorem r_newI {N : Nat} {x : Int32} (hd : decode (uC u) pc = .ok (.newarray .int, 2)) (hx : ¬ x < 0) (hN : x.toNatClampNeg = N) (hb : N * 4 ≤ 536870912)
    (hf : uF u = true) (hc : k + 1 ≤ (uR u).cells) (hs : n + N ≤ (uR u).slots) (h : Run g l u Q (pc + 2) lv (.ref (mX S) :: st) (k + 1) (n + N) (nw S 7 N)) : Run g l u Q pc lv (.int x :: st) k n S :=
  r_newa (ty := .int) (kd := 7) (t0 := 0) hd rfl (by decide +kernel) rfl (fun _ _ h => h) (fun S cA hcA => by
    obtain ⟨h1, h2, h3, h4, h5, h6⟩ := cell_nw (S := S) (c := 7) (N := N)
    rw [mCell_7 h1, h2, h3, hcA]
    rfl) hx hN hb hf hc hs h
theorem r_newZ {N : Nat} {x : Int32} (hd : decode (uC u) pc = .ok (.newarray .boolean, 2)) (hx : ¬ x < 0) (hN : x.toNatClampNeg = N) (hb : N * 1 ≤ 536870912)
    (hf : uF u = true) (hc : k + 1 ≤ (uR u).cells) (hs : n + N ≤ (uR u).slots) (h : Run g l u Q (pc + 2) lv (.ref (mX S) :: st) (k + 1) (n + N) (nw S 8 N)) : Run g l u Q pc lv (.int x :: st) k n S :=
  r_newa (ty := .boolean) (kd := 8) (t0 := 1) hd rfl (by decide +kernel) rfl (fun _ _ h => h) (fun S cA hcA => by
    obtain ⟨h1, h2, h3, h4, h5, h6⟩ := cell_nw (S := S) (c := 8) (N := N)
    rw [mCell_8 h1, h2, h3, hcA]
    rfl) hx hN hb hf hc hs h
theorem r_newJ {N : Nat} {x : Int32} (hd : decode (uC u) pc = .ok (.newarray .long, 2)) (hx : ¬ x < 0) (hN : x.toNatClampNeg = N) (hb : N * 8 ≤ 536870912)
    (hf : uF u = true) (hc : k + 1 ≤ (uR u).cells) (hs : n + N ≤ (uR u).slots) (h : Run g l u Q (pc + 2) lv (.ref (mX S) :: st) (k + 1) (n + N) (nw S 10 N)) : Run g l u Q pc lv (.int x :: st) k n S :=
  r_newa (ty := .long) (kd := 10) (t0 := 3) hd rfl (by decide +kernel) rfl (fun _ _ h => h) (fun S cA hcA => by
    obtain ⟨h1, h2, h3, h4, h5, h6⟩ := cell_nw (S := S) (c := 10) (N := N)
    rw [mCell_10 h1, h2, h5, hcA]
    rfl) hx hN hb hf hc hs h
theorem r_newD {N : Nat} {x : Int32} (hd : decode (uC u) pc = .ok (.newarray .double, 2)) (hx : ¬ x < 0) (hN : x.toNatClampNeg = N) (hb : N * 8 ≤ 536870912)
    (hf : uF u = true) (hc : k + 1 ≤ (uR u).cells) (hs : n + N ≤ (uR u).slots) (h : Run g l u Q (pc + 2) lv (.ref (mX S) :: st) (k + 1) (n + N) (nw S 11 N)) : Run g l u Q pc lv (.int x :: st) k n S :=
  r_newa (ty := .double) (kd := 11) (t0 := 4) hd rfl (by decide +kernel) rfl (fun _ _ h => h) (fun S cA hcA => by
    obtain ⟨h1, h2, h3, h4, h5, h6⟩ := cell_nw (S := S) (c := 11) (N := N)
    rw [mCell_11 h1, h2, h6, hcA]
    rfl) hx hN hb hf hc hs h
theorem r_newV {idx N : Nat} {x : Int32} (hd : decode (uC u) pc = .ok (.anewarray idx, 3)) (hm : Cond.classLink (uY u).cls idx RX4 ∈ lw_tbl) (hx : ¬ x < 0) (hN : x.toNatClampNeg = N) (hb : N * 4 ≤ 536870912)
    (hf : uF u = true) (hc : k + 1 ≤ (uR u).cells) (hs : n + N ≤ (uR u).slots) (h : Run g l u Q (pc + 3) lv (.ref (mX S) :: st) (k + 1) (n + N) (nw S 9 N)) : Run g l u Q pc lv (.int x :: st) k n S := by
  subst hN
  intro p e s m args below meth c A H locs ls C hW hS hl T hT X
  have hW' : okW g A S H s k true := by rw [← hf]; exact hW
  have hz := size_of X hT hW' hS
  suffices hw : W p l e (uR u) s m args below meth c H locs k n (Q args below s A) (F0 m pc ls (.int x :: st)) from hw T hT X
  refine W.anew (g := F0 m pc ls (.int x :: st)) (rest := st) C.1 C.2.1 C.2.2.2.2.1 (Cx_w C hm rfl) (va_AO.use C.2.2.2.2.2.2.2.2.1.2.2.2.2.2.2.1) rfl hd rfl hx hb hc hs (fun cA kA comp f1 f2 f3 f4 => ?_)
  obtain ⟨kA', comp', g1, g2, g3, g4⟩ := (C.2.2.2.2.2.2.2.2.1.2.2.1.2 2 _ rfl).2
  have hcA : cA = g.2.1 9 := Option.some.inj (f1.symm.trans g4)
  generalize hH1 : H.push ({ cls := cA, slots := Array.replicate x.toNatClampNeg .null, vm := .none } : Cell) = H1
  have z1 : H1.size = mX S + 1 := by rw [← hH1, Array.size_push, hz]
  have e1 : H1[mX S]? = some (arrV cA x.toNatClampNeg (fun _ => .null)) := by rw [← hH1, ← hz, Array.getElem?_push_size, ← arrV_new]
  have o1 : ∀ q : Nat, q < mX S → H1[q]? = H[q]? := fun q hq => by rw [← hH1, Array.getElem?_push, if_neg (by omega)]
  have hnk := nw_ok (c := 9) (N := x.toNatClampNeg) hz hW' hS C.2.2.2.2.2.2.2.2.2.1 z1 o1 (by
    obtain ⟨h1, h2, h3, h4, h5, h6⟩ := cell_nw (S := S) (c := 9) (N := x.toNatClampNeg)
    rw [mCell_9 h1, h2, h4]
    show H1[mX S]? = some (vp_cell _ _)
    rw [vp_cell_q, e1, hcA]
    rfl)
  show W p l e (uR u) s m args below meth c H1 locs (k + 1) (n + x.toNatClampNeg) (Q args below s A) (F0 m (pc + 3) ls (.ref H.size :: st))
  rw [hz]
  exact h p e s m args below meth c A H1 locs ls C (by rw [hf]; exact hnk.1) hnk.2 hl
end RN
end
section
/-! What an instruction gives as a function of the memory (none: the machine itself would throw, or the kind is another), and its rule. -/
def cvI (r : Int32) : Option Value ⊕ String := .inl (some (.int r))
def cvV : Option Value ⊕ String := .inl none
def cvR (r : Nat) : Option Value ⊕ String := .inl (some (.ref r))
def cvF (r : UInt32) : Option Value ⊕ String := .inl (some (.float r))
def cxI (r : Int32 ⊕ String) : Option Value ⊕ String := match r with
  | .inl x => .inl (some (.int x))
  | .inr e => .inr e
def cxF (r : UInt32 ⊕ String) : Option Value ⊕ String := match r with
  | .inl x => .inl (some (.float x))
  | .inr e => .inr e
def cxV (r : Unit ⊕ String) : Option Value ⊕ String := match r with
  | .inl _ => .inl none
  | .inr e => .inr e
def pk (c : Nat) (S : Mem) (a : Nat) : Option Unit := if a ∈ mL S ∧ mK S a = c then some () else none
def pgI (c j : Nat) (S : Mem) (a : Nat) : Option Int32 := if a ∈ mL S ∧ mK S a = c then some (mI S a j) else none
def pgR (c j : Nat) (S : Mem) (a : Nat) : Option Nat := if a ∈ mL S ∧ mK S a = c then mR S a j else none
def ppI (c j : Nat) (S : Mem) (a : Nat) (x : Int32) : Option Mem := if a ∈ mL S ∧ mK S a = c then some (sI S a j x) else none
def ppZ (c j : Nat) (S : Mem) (a : Nat) (x : Int32) : Option Mem := if (a ∈ mL S ∧ mK S a = c) ∧ (x = 0 ∨ x = 1) then some (sI S a j x) else none
def ppF (c j : Nat) (S : Mem) (a b : Nat) : Option Mem := if a ∈ mL S ∧ mK S a = c then some (sR S a j (some b)) else none
def paI (S : Mem) (a : Nat) (i : Int32) : Option Int32 := if (a ∈ mL S ∧ mK S a = 7) ∧ ¬ (i < 0 ∨ mN S a ≤ i.toNatClampNeg) then some (mI S a i.toNatClampNeg) else none
def paZ (S : Mem) (a : Nat) (i : Int32) : Option Int32 := if (a ∈ mL S ∧ mK S a = 8) ∧ ¬ (i < 0 ∨ mN S a ≤ i.toNatClampNeg) then some (mI S a i.toNatClampNeg) else none
def paR (S : Mem) (a : Nat) (i : Int32) : Option Nat := if (a ∈ mL S ∧ mK S a = 9) ∧ ¬ (i < 0 ∨ mN S a ≤ i.toNatClampNeg) then mR S a i.toNatClampNeg else none
def paJ (S : Mem) (a : Nat) (i : Int32) : Option Int64 := if (a ∈ mL S ∧ mK S a = 10) ∧ ¬ (i < 0 ∨ mN S a ≤ i.toNatClampNeg) then some (mJ S a i.toNatClampNeg) else none
def paD (S : Mem) (a : Nat) (i : Int32) : Option UInt64 := if (a ∈ mL S ∧ mK S a = 11) ∧ ¬ (i < 0 ∨ mN S a ≤ i.toNatClampNeg) then some (mD S a i.toNatClampNeg) else none
def psI (S : Mem) (a : Nat) (i x : Int32) : Option Mem := if (a ∈ mL S ∧ mK S a = 7) ∧ ¬ (i < 0 ∨ mN S a ≤ i.toNatClampNeg) then some (sI S a i.toNatClampNeg x) else none
def psZ (S : Mem) (a : Nat) (i x : Int32) : Option Mem := if ((a ∈ mL S ∧ mK S a = 8) ∧ ¬ (i < 0 ∨ mN S a ≤ i.toNatClampNeg)) ∧ (x = 0 ∨ x = 1) then some (sI S a i.toNatClampNeg x) else none
def psR (S : Mem) (a : Nat) (i : Int32) (b : Nat) : Option Mem := if ((a ∈ mL S ∧ mK S a = 9) ∧ ¬ (i < 0 ∨ mN S a ≤ i.toNatClampNeg)) ∧ (b ∈ mL S ∧ mK S b = 4) then some (sR S a i.toNatClampNeg (some b)) else none
def psJ (S : Mem) (a : Nat) (i : Int32) (x : Int64) : Option Mem := if (a ∈ mL S ∧ mK S a = 10) ∧ ¬ (i < 0 ∨ mN S a ≤ i.toNatClampNeg) then some (sJ S a i.toNatClampNeg x) else none
def psD (S : Mem) (a : Nat) (i : Int32) (x : UInt64) : Option Mem := if (a ∈ mL S ∧ mK S a = 11) ∧ ¬ (i < 0 ∨ mN S a ≤ i.toNatClampNeg) then some (sD S a i.toNatClampNeg x) else none
def ptL (i : Int32) : Option Int32 := if ¬ (i < 0 ∨ 4 ≤ i.toNatClampNeg) then some (letT i.toNatClampNeg) else none
def pdiv (x y : Int32) : Option Int32 := if y = 0 then none else some (x / y)
def prem (x y : Int32) : Option Int32 := if y = 0 then none else some (x - x / y * y)
def pfadd (x y : UInt32) : Option UInt32 := if FP.fadd x y &&& 0x7fffffff ≤ 0x7f800000 then some (FP.fadd x y) else none
def pfmul (x y : UInt32) : Option UInt32 := if FP.fmul x y &&& 0x7fffffff ≤ 0x7f800000 then some (FP.fmul x y) else none
def pfdiv (x y : UInt32) : Option UInt32 := if FP.fdiv x y &&& 0x7fffffff ≤ 0x7f800000 then some (FP.fdiv x y) else none
def pmax (x y : Int32) : Int32 := if x < y then y else x
def pmin (x y : Int32) : Int32 := if y < x then y else x
def pcp (S : Mem) (a : Nat) (sp : Int32) (b : Nat) (dp cn : Int32) : Option Mem :=
  if ((a ∈ mL S ∧ mK S a = 7) ∧ (b ∈ mL S ∧ mK S b = 7)) ∧ (¬ sp < 0 ∧ ¬ dp < 0 ∧ ¬ cn < 0) ∧ sp.toNatClampNeg + cn.toNatClampNeg ≤ mN S a ∧ dp.toNatClampNeg + cn.toNatClampNeg ≤ mN S b then some (sF S b (va_cpy (mI S a) (mI S b) sp.toNatClampNeg dp.toNatClampNeg cn.toNatClampNeg)) else none
/-- a boolean answer -/
def rtZ (x : Int32) (S : Mem) : Option (Int32 × Mem) := if x = 0 ∨ x = 1 then some (x, S) else none
theorem if_some {α : Type} {c : Prop} [Decidable c] {x y : α} (h : (if c then some x else none) = some y) : c ∧ x = y := by
  by_cases hc : c
  · rw [if_pos hc] at h; exact ⟨hc, Option.some.inj h⟩
  · rw [if_neg hc] at h; cases h
theorem if_opt {α : Type} {c : Prop} [Decidable c] {x : Option α} {y : α} (h : (if c then x else none) = some y) : c ∧ x = some y := by
  by_cases hc : c
  · rw [if_pos hc] at h; exact ⟨hc, h⟩
  · rw [if_neg hc] at h; cases h
theorem bd {α β : Type} {x : Option α} {f : α → Option β} {y : β} (h : x.bind f = some y) : ∃ z, x = some z ∧ f z = some y := Option.bind_eq_some_iff.mp h
theorem pk_ok {c : Nat} {S : Mem} {a : Nat} {z : Unit} (h : pk c S a = some z) : ok S a c := (if_some h).1
section RP
variable {g : GG} {l : Launch} {u u2 : MU} {Q : FQ} {pc : Nat} {lv : List (Nat × Value)} {st : List Value} {k n : Nat} {S S1 : Mem}
theorem q_getI {idx ci j a : Nat} {f : Bool} {t : FieldType} {x : Int32} (h0 : pgI ci j S a = some x) (hd : decode (uC u) pc = .ok (.getfield idx, 3)) (hf : FL (uY u).cls idx ci j f t) (hr : rfT ci j = false) (h : Run g l u Q (pc + 3) lv (.int x :: st) k n S) : Run g l u Q pc lv (.ref a :: st) k n S := by
  obtain ⟨h1, rfl⟩ := if_some h0
  exact r_getI hd hf hr h1 h
theorem q_getR {idx ci j a b : Nat} {f : Bool} {t : FieldType} (h0 : pgR ci j S a = some b) (hd : decode (uC u) pc = .ok (.getfield idx, 3)) (hf : FL (uY u).cls idx ci j f t) (hr : rfT ci j = true) (h : Run g l u Q (pc + 3) lv (.ref b :: st) k n S) : Run g l u Q pc lv (.ref a :: st) k n S := by
  obtain ⟨h1, h2⟩ := if_opt h0
  exact r_getR hd hf hr h1 h2 h
theorem q_putI {idx ci j a : Nat} {x : Int32} (h0 : ppI ci j S a x = some S1) (hd : decode (uC u) pc = .ok (.putfield idx, 3)) (hf : FL (uY u).cls idx ci j false .int) (hr : rfT ci j = false) (h : Run g l u Q (pc + 3) lv st k n S1) : Run g l u Q pc lv (.int x :: .ref a :: st) k n S := by
  obtain ⟨h1, rfl⟩ := if_some h0
  exact r_putI hd hf hr h1 h
theorem q_putZ {idx ci j a : Nat} {x : Int32} (h0 : ppZ ci j S a x = some S1) (hd : decode (uC u) pc = .ok (.putfield idx, 3)) (hf : FL (uY u).cls idx ci j false .boolean) (hr : rfT ci j = false) (h : Run g l u Q (pc + 3) lv st k n S1) : Run g l u Q pc lv (.int x :: .ref a :: st) k n S := by
  obtain ⟨⟨h1, h2⟩, rfl⟩ := if_some h0
  exact r_putZ hd hf hr h2 h1 h
theorem q_putF {idx ci j a b : Nat} {t : FieldType} (h0 : ppF ci j S a b = some S1) (hd : decode (uC u) pc = .ok (.putfield idx, 3)) (hf : FF (uY u).cls idx ci j t) (hi : (uY u).name = "<init>") (hr : rfT ci j = true) (hn : narrow t (.ref b) = .ref b) (hfit : fits t (.ref b) = true) (h : Run g l u Q (pc + 3) lv st k n S1) : Run g l u Q pc lv (.ref b :: .ref a :: st) k n S := by
  obtain ⟨h1, rfl⟩ := if_some h0
  exact r_putF hd hf hi hr hn hfit h1 h
theorem q_iaload {a : Nat} {i x : Int32} (h0 : paI S a i = some x) (hd : decode (uC u) pc = .ok (.iaload, 1)) (h : Run g l u Q (pc + 1) lv (.int x :: st) k n S) : Run g l u Q pc lv (.int i :: .ref a :: st) k n S := by
  obtain ⟨⟨h1, h2⟩, rfl⟩ := if_some h0
  exact r_iaload hd h1 h2 h
theorem q_baload {a : Nat} {i x : Int32} (h0 : paZ S a i = some x) (hd : decode (uC u) pc = .ok (.baload, 1)) (h : Run g l u Q (pc + 1) lv (.int x :: st) k n S) : Run g l u Q pc lv (.int i :: .ref a :: st) k n S := by
  obtain ⟨⟨h1, h2⟩, rfl⟩ := if_some h0
  exact r_baload hd h1 h2 h
theorem q_aaload {a b : Nat} {i : Int32} (h0 : paR S a i = some b) (hd : decode (uC u) pc = .ok (.aaload, 1)) (h : Run g l u Q (pc + 1) lv (.ref b :: st) k n S) : Run g l u Q pc lv (.int i :: .ref a :: st) k n S := by
  obtain ⟨⟨h1, h2⟩, h3⟩ := if_opt h0
  exact r_aaload hd h1 h2 h3 h
theorem q_laload {a : Nat} {i : Int32} {x : Int64} (h0 : paJ S a i = some x) (hd : decode (uC u) pc = .ok (.laload, 1)) (h : Run g l u Q (pc + 1) lv (.long x :: st) k n S) : Run g l u Q pc lv (.int i :: .ref a :: st) k n S := by
  obtain ⟨⟨h1, h2⟩, rfl⟩ := if_some h0
  exact r_laload hd h1 h2 h
theorem q_daload {a : Nat} {i : Int32} {x : UInt64} (h0 : paD S a i = some x) (hd : decode (uC u) pc = .ok (.daload, 1)) (h : Run g l u Q (pc + 1) lv (.double x :: st) k n S) : Run g l u Q pc lv (.int i :: .ref a :: st) k n S := by
  obtain ⟨⟨h1, h2⟩, rfl⟩ := if_some h0
  exact r_daload hd h1 h2 h
theorem q_iastore {a : Nat} {i x : Int32} (h0 : psI S a i x = some S1) (hd : decode (uC u) pc = .ok (.iastore, 1)) (h : Run g l u Q (pc + 1) lv st k n S1) : Run g l u Q pc lv (.int x :: .int i :: .ref a :: st) k n S := by
  obtain ⟨⟨h1, h2⟩, rfl⟩ := if_some h0
  exact r_iastore hd h1 h2 h
theorem q_bastore {a : Nat} {i x : Int32} (h0 : psZ S a i x = some S1) (hd : decode (uC u) pc = .ok (.bastore, 1)) (h : Run g l u Q (pc + 1) lv st k n S1) : Run g l u Q pc lv (.int x :: .int i :: .ref a :: st) k n S := by
  obtain ⟨⟨⟨h1, h2⟩, h3⟩, rfl⟩ := if_some h0
  exact r_bastore hd h1 h2 h3 h
theorem q_aastore {a b : Nat} {i : Int32} (h0 : psR S a i b = some S1) (hd : decode (uC u) pc = .ok (.aastore, 1)) (h : Run g l u Q (pc + 1) lv st k n S1) : Run g l u Q pc lv (.ref b :: .int i :: .ref a :: st) k n S := by
  obtain ⟨⟨⟨h1, h2⟩, h3⟩, rfl⟩ := if_some h0
  exact r_aastore hd h1 h3 h2 h
theorem q_lastore {a : Nat} {i : Int32} {x : Int64} (h0 : psJ S a i x = some S1) (hd : decode (uC u) pc = .ok (.lastore, 1)) (h : Run g l u Q (pc + 1) lv st k n S1) : Run g l u Q pc lv (.long x :: .int i :: .ref a :: st) k n S := by
  obtain ⟨⟨h1, h2⟩, rfl⟩ := if_some h0
  exact r_lastore hd h1 h2 h
theorem q_dastore {a : Nat} {i : Int32} {x : UInt64} (h0 : psD S a i x = some S1) (hd : decode (uC u) pc = .ok (.dastore, 1)) (h : Run g l u Q (pc + 1) lv st k n S1) : Run g l u Q pc lv (.double x :: .int i :: .ref a :: st) k n S := by
  obtain ⟨⟨h1, h2⟩, rfl⟩ := if_some h0
  exact r_dastore hd h1 h2 h
theorem q_letters {i x : Int32} (h0 : ptL i = some x) (hd : decode (uC u) pc = .ok (.iaload, 1)) (h : Run g l u Q (pc + 1) lv (.int x :: st) k n S) : Run g l u Q pc lv (.int i :: .ref g.2.2.1 :: st) k n S := by
  obtain ⟨h1, h2⟩ := if_some h0
  exact r_lettersN (idx := 0) hd h1 h2 h
theorem q_idiv {x y z : Int32} (h0 : pdiv x y = some z) (hd : decode (uC u) pc = .ok (.idiv, 1)) (h : Run g l u Q (pc + 1) lv (.int z :: st) k n S) : Run g l u Q pc lv (.int y :: .int x :: st) k n S := by
  unfold pdiv at h0
  by_cases hy : y = 0
  · rw [if_pos hy] at h0; cases h0
  · rw [if_neg hy] at h0
    cases h0
    exact r_idiv hd hy h
theorem q_irem {x y z : Int32} (h0 : prem x y = some z) (hd : decode (uC u) pc = .ok (.irem, 1)) (h : Run g l u Q (pc + 1) lv (.int z :: st) k n S) : Run g l u Q pc lv (.int y :: .int x :: st) k n S := by
  unfold prem at h0
  by_cases hy : y = 0
  · rw [if_pos hy] at h0; cases h0
  · rw [if_neg hy] at h0
    cases h0
    exact r_irem hd hy h
theorem q_fadd {x y z : UInt32} (h0 : pfadd x y = some z) (hd : decode (uC u) pc = .ok (.fadd, 1)) (h : Run g l u Q (pc + 1) lv (.float z :: st) k n S) : Run g l u Q pc lv (.float y :: .float x :: st) k n S := by
  obtain ⟨h1, rfl⟩ := if_some h0
  exact r_fadd hd h1 h
theorem q_fmul {x y z : UInt32} (h0 : pfmul x y = some z) (hd : decode (uC u) pc = .ok (.fmul, 1)) (h : Run g l u Q (pc + 1) lv (.float z :: st) k n S) : Run g l u Q pc lv (.float y :: .float x :: st) k n S := by
  obtain ⟨h1, rfl⟩ := if_some h0
  exact r_fmul hd h1 h
theorem q_fdiv {x y z : UInt32} (h0 : pfdiv x y = some z) (hd : decode (uC u) pc = .ok (.fdiv, 1)) (h : Run g l u Q (pc + 1) lv (.float z :: st) k n S) : Run g l u Q pc lv (.float y :: .float x :: st) k n S := by
  obtain ⟨h1, rfl⟩ := if_some h0
  exact r_fdiv hd h1 h
theorem q_copy {idx a b : Nat} {sp dp cn : Int32} (h0 : pcp S a sp b dp cn = some S1) (hd : decode (uC u) pc = .ok (.invokestatic idx, 3)) (h1 : Cond.methodLink (uY u).cls idx arraycopyName ∈ lw_tbl) (hf : 1 ≤ (uR u).frames) (hlo : (st.map fun v => v.category).sum + (nativeFrameWords "java/lang/System" "arraycopy" 5 + 11) ≤ (uR u).locals)
    (h : Run g l u Q (pc + 3) lv st k n S1) : Run g l u Q pc lv (.int cn :: .int dp :: .ref b :: .int sp :: .ref a :: st) k n S := by
  obtain ⟨⟨⟨p1, p2⟩, ⟨p3, p4, p5⟩, p6, p7⟩, rfl⟩ := if_some h0
  exact r_copy hd h1 hf hlo p1 p2 p3 p4 p5 p6 p7 h
end RP
end
