section
-- PART A of the skeleton, the printed rows on exceptions, the printed names (starting texts of the claim)
/-- a private method of a class that the tables say can be made, by its rows of tables_1 -/
def lw_okq (q : MethodName × Nat) : Prop := (q.1.cls ≠ "java/lang/invoke/MethodHandle" ∧ q.1.cls ≠ "java/lang/invoke/VarHandle") ∧ Cond.instantiable q.1.cls q.2 ∈ tables_1 ∧ Cond.privateMethod q.1 ∈ tables_1 ∧ Cond.instanceMethod q.1 ∈ tables_1
theorem lw_p0 : lw_okq (⟨"java/lang/Throwable", "fillInStackTrace", "(I)Ljava/lang/Throwable;"⟩, 6) := ⟨⟨by decide +kernel, by decide +kernel⟩, List.mem_of_getElem? (i := 238) (by decide +kernel), List.mem_of_getElem? (i := 236) (by decide +kernel), List.mem_of_getElem? (i := 237) (by decide +kernel)⟩
theorem lw_p1 : lw_okq (⟨"VariantKit", "requireRecord", "(I)V"⟩, 8) := ⟨⟨by decide +kernel, by decide +kernel⟩, List.mem_of_getElem? (i := 18) (by decide +kernel), List.mem_of_getElem? (i := 420) (by decide +kernel), List.mem_of_getElem? (i := 421) (by decide +kernel)⟩
theorem lw_p2 : lw_okq (⟨"VariantKit$Variant", "trimEnd", "(LVariantKit$Reference;)Z"⟩, 9) := ⟨⟨by decide +kernel, by decide +kernel⟩, List.mem_of_getElem? (i := 48) (by decide +kernel), List.mem_of_getElem? (i := 441) (by decide +kernel), List.mem_of_getElem? (i := 442) (by decide +kernel)⟩
theorem lw_p3 : lw_okq (⟨"VariantKit$Variant", "isLastBaseShared", "()Z"⟩, 9) := ⟨⟨by decide +kernel, by decide +kernel⟩, List.mem_of_getElem? (i := 48) (by decide +kernel), List.mem_of_getElem? (i := 445) (by decide +kernel), List.mem_of_getElem? (i := 446) (by decide +kernel)⟩
theorem lw_p4 : lw_okq (⟨"VariantKit$Variant", "shortest", "()I"⟩, 9) := ⟨⟨by decide +kernel, by decide +kernel⟩, List.mem_of_getElem? (i := 48) (by decide +kernel), List.mem_of_getElem? (i := 449) (by decide +kernel), List.mem_of_getElem? (i := 450) (by decide +kernel)⟩
theorem lw_p5 : lw_okq (⟨"VariantKit$Variant", "putInFront", "(I)V"⟩, 9) := ⟨⟨by decide +kernel, by decide +kernel⟩, List.mem_of_getElem? (i := 48) (by decide +kernel), List.mem_of_getElem? (i := 457) (by decide +kernel), List.mem_of_getElem? (i := 458) (by decide +kernel)⟩
theorem lw_p6 : lw_okq (⟨"VariantKit$Variant", "trimFront", "()Z"⟩, 9) := ⟨⟨by decide +kernel, by decide +kernel⟩, List.mem_of_getElem? (i := 48) (by decide +kernel), List.mem_of_getElem? (i := 461) (by decide +kernel), List.mem_of_getElem? (i := 462) (by decide +kernel)⟩
theorem lw_p7 : lw_okq (⟨"VariantKit$Variant", "isFirstBaseShared", "()Z"⟩, 9) := ⟨⟨by decide +kernel, by decide +kernel⟩, List.mem_of_getElem? (i := 48) (by decide +kernel), List.mem_of_getElem? (i := 465) (by decide +kernel), List.mem_of_getElem? (i := 466) (by decide +kernel)⟩
theorem lw_p8 : lw_okq (⟨"VariantKit$Joiner", "uniteAlleles", "()Z"⟩, 4) := ⟨⟨by decide +kernel, by decide +kernel⟩, List.mem_of_getElem? (i := 121) (by decide +kernel), List.mem_of_getElem? (i := 535) (by decide +kernel), List.mem_of_getElem? (i := 536) (by decide +kernel)⟩
theorem lw_p9 : lw_okq (⟨"VariantKit$Joiner", "uniteDepths", "()V"⟩, 4) := ⟨⟨by decide +kernel, by decide +kernel⟩, List.mem_of_getElem? (i := 121) (by decide +kernel), List.mem_of_getElem? (i := 542) (by decide +kernel), List.mem_of_getElem? (i := 543) (by decide +kernel)⟩
theorem lw_p10 : lw_okq (⟨"VariantKit$Joiner", "uniteGenotypes", "()V"⟩, 4) := ⟨⟨by decide +kernel, by decide +kernel⟩, List.mem_of_getElem? (i := 121) (by decide +kernel), List.mem_of_getElem? (i := 547) (by decide +kernel), List.mem_of_getElem? (i := 548) (by decide +kernel)⟩
theorem lw_p11 : lw_okq (⟨"VariantKit$Joiner", "unitedAllele", "(II)I"⟩, 4) := ⟨⟨by decide +kernel, by decide +kernel⟩, List.mem_of_getElem? (i := 121) (by decide +kernel), List.mem_of_getElem? (i := 551) (by decide +kernel), List.mem_of_getElem? (i := 552) (by decide +kernel)⟩
theorem lw_p12 : lw_okq (⟨"VariantKit$Joiner", "uniteLikelihoods", "()V"⟩, 4) := ⟨⟨by decide +kernel, by decide +kernel⟩, List.mem_of_getElem? (i := 121) (by decide +kernel), List.mem_of_getElem? (i := 555) (by decide +kernel), List.mem_of_getElem? (i := 556) (by decide +kernel)⟩
theorem lw_p13 : lw_okq (⟨"VariantKit$ByteRow", "putNumber", "(II)V"⟩, 3) := ⟨⟨by decide +kernel, by decide +kernel⟩, List.mem_of_getElem? (i := 143) (by decide +kernel), List.mem_of_getElem? (i := 576) (by decide +kernel), List.mem_of_getElem? (i := 577) (by decide +kernel)⟩
theorem lw_p14 : lw_okq (⟨"VariantKit$ByteRow", "putAllele", "(II)V"⟩, 3) := ⟨⟨by decide +kernel, by decide +kernel⟩, List.mem_of_getElem? (i := 143) (by decide +kernel), List.mem_of_getElem? (i := 584) (by decide +kernel), List.mem_of_getElem? (i := 585) (by decide +kernel)⟩
theorem lw_p15 : lw_okq (⟨"VariantKit$ByteRow", "putNumbers", "([III)V"⟩, 3) := ⟨⟨by decide +kernel, by decide +kernel⟩, List.mem_of_getElem? (i := 143) (by decide +kernel), List.mem_of_getElem? (i := 591) (by decide +kernel), List.mem_of_getElem? (i := 592) (by decide +kernel)⟩
def lw_privs_1 : List (MethodName × Nat) := [(⟨"java/lang/Throwable", "fillInStackTrace", "(I)Ljava/lang/Throwable;"⟩, 6), (⟨"VariantKit", "requireRecord", "(I)V"⟩, 8), (⟨"VariantKit$Variant", "trimEnd", "(LVariantKit$Reference;)Z"⟩, 9), (⟨"VariantKit$Variant", "isLastBaseShared", "()Z"⟩, 9), (⟨"VariantKit$Variant", "shortest", "()I"⟩, 9), (⟨"VariantKit$Variant", "putInFront", "(I)V"⟩, 9), (⟨"VariantKit$Variant", "trimFront", "()Z"⟩, 9), (⟨"VariantKit$Variant", "isFirstBaseShared", "()Z"⟩, 9), (⟨"VariantKit$Joiner", "uniteAlleles", "()Z"⟩, 4), (⟨"VariantKit$Joiner", "uniteDepths", "()V"⟩, 4), (⟨"VariantKit$Joiner", "uniteGenotypes", "()V"⟩, 4), (⟨"VariantKit$Joiner", "unitedAllele", "(II)I"⟩, 4), (⟨"VariantKit$Joiner", "uniteLikelihoods", "()V"⟩, 4), (⟨"VariantKit$ByteRow", "putNumber", "(II)V"⟩, 3), (⟨"VariantKit$ByteRow", "putAllele", "(II)V"⟩, 3), (⟨"VariantKit$ByteRow", "putNumbers", "([III)V"⟩, 3)]
theorem lw_r1 : ∀ q ∈ lw_privs_1, lw_okq q := List.forall_mem_cons.mpr ⟨lw_p0, List.forall_mem_cons.mpr ⟨lw_p1, List.forall_mem_cons.mpr ⟨lw_p2, List.forall_mem_cons.mpr ⟨lw_p3, List.forall_mem_cons.mpr ⟨lw_p4, List.forall_mem_cons.mpr ⟨lw_p5, List.forall_mem_cons.mpr ⟨lw_p6, List.forall_mem_cons.mpr ⟨lw_p7, List.forall_mem_cons.mpr ⟨lw_p8, List.forall_mem_cons.mpr ⟨lw_p9, List.forall_mem_cons.mpr ⟨lw_p10, List.forall_mem_cons.mpr ⟨lw_p11, List.forall_mem_cons.mpr ⟨lw_p12, List.forall_mem_cons.mpr ⟨lw_p13, List.forall_mem_cons.mpr ⟨lw_p14, List.forall_mem_cons.mpr ⟨lw_p15, fun _ h => absurd h List.not_mem_nil⟩⟩⟩⟩⟩⟩⟩⟩⟩⟩⟩⟩⟩⟩⟩⟩
theorem lw_p16 : lw_okq (⟨"VariantKit", "takeTyped", "()Z"⟩, 8) := ⟨⟨by decide +kernel, by decide +kernel⟩, List.mem_of_getElem? (i := 18) (by decide +kernel), List.mem_of_getElem? (i := 628) (by decide +kernel), List.mem_of_getElem? (i := 629) (by decide +kernel)⟩
theorem lw_p17 : lw_okq (⟨"VariantKit$ByteRow", "takeNumber", "(I)I"⟩, 3) := ⟨⟨by decide +kernel, by decide +kernel⟩, List.mem_of_getElem? (i := 143) (by decide +kernel), List.mem_of_getElem? (i := 637) (by decide +kernel), List.mem_of_getElem? (i := 638) (by decide +kernel)⟩
theorem lw_p18 : lw_okq (⟨"VariantKit$ByteRow", "take", "()I"⟩, 3) := ⟨⟨by decide +kernel, by decide +kernel⟩, List.mem_of_getElem? (i := 143) (by decide +kernel), List.mem_of_getElem? (i := 641) (by decide +kernel), List.mem_of_getElem? (i := 642) (by decide +kernel)⟩
theorem lw_p19 : lw_okq (⟨"VariantKit$ByteRow", "takeAlleles", "(LVariantKit$Variant;LVariantKit$Reference;)Z"⟩, 3) := ⟨⟨by decide +kernel, by decide +kernel⟩, List.mem_of_getElem? (i := 143) (by decide +kernel), List.mem_of_getElem? (i := 645) (by decide +kernel), List.mem_of_getElem? (i := 646) (by decide +kernel)⟩
theorem lw_p20 : lw_okq (⟨"VariantKit$ByteRow", "takeBases", "(I)I"⟩, 3) := ⟨⟨by decide +kernel, by decide +kernel⟩, List.mem_of_getElem? (i := 143) (by decide +kernel), List.mem_of_getElem? (i := 649) (by decide +kernel), List.mem_of_getElem? (i := 650) (by decide +kernel)⟩
theorem lw_p21 : lw_okq (⟨"VariantKit$ByteRow", "takeNumbers", "([IIII)Z"⟩, 3) := ⟨⟨by decide +kernel, by decide +kernel⟩, List.mem_of_getElem? (i := 143) (by decide +kernel), List.mem_of_getElem? (i := 657) (by decide +kernel), List.mem_of_getElem? (i := 658) (by decide +kernel)⟩
theorem lw_p22 : lw_okq (⟨"VariantKit$ByteRow", "takeGenotype", "(LVariantKit$Variant;I)Z"⟩, 3) := ⟨⟨by decide +kernel, by decide +kernel⟩, List.mem_of_getElem? (i := 143) (by decide +kernel), List.mem_of_getElem? (i := 661) (by decide +kernel), List.mem_of_getElem? (i := 662) (by decide +kernel)⟩
theorem lw_p23 : lw_okq (⟨"VariantKitModel", "throwing", "(ZZ)Z"⟩, 11) := ⟨⟨by decide +kernel, by decide +kernel⟩, List.mem_of_getElem? (i := 720) (by decide +kernel), List.mem_of_getElem? (i := 768) (by decide +kernel), List.mem_of_getElem? (i := 769) (by decide +kernel)⟩
theorem lw_p24 : lw_okq (⟨"VariantKitModel", "empty", "(II)V"⟩, 11) := ⟨⟨by decide +kernel, by decide +kernel⟩, List.mem_of_getElem? (i := 720) (by decide +kernel), List.mem_of_getElem? (i := 777) (by decide +kernel), List.mem_of_getElem? (i := 778) (by decide +kernel)⟩
theorem lw_p25 : lw_okq (⟨"VariantKitModel", "put", "(III)V"⟩, 11) := ⟨⟨by decide +kernel, by decide +kernel⟩, List.mem_of_getElem? (i := 720) (by decide +kernel), List.mem_of_getElem? (i := 781) (by decide +kernel), List.mem_of_getElem? (i := 782) (by decide +kernel)⟩
theorem lw_p26 : lw_okq (⟨"VariantKitModel", "referenceFrom", "(II)I"⟩, 11) := ⟨⟨by decide +kernel, by decide +kernel⟩, List.mem_of_getElem? (i := 720) (by decide +kernel), List.mem_of_getElem? (i := 785) (by decide +kernel), List.mem_of_getElem? (i := 786) (by decide +kernel)⟩
theorem lw_p27 : lw_okq (⟨"VariantKitModel", "addAllele", "(III)V"⟩, 11) := ⟨⟨by decide +kernel, by decide +kernel⟩, List.mem_of_getElem? (i := 720) (by decide +kernel), List.mem_of_getElem? (i := 789) (by decide +kernel), List.mem_of_getElem? (i := 790) (by decide +kernel)⟩
theorem lw_p28 : lw_okq (⟨"VariantKitModel", "get", "(II)I"⟩, 11) := ⟨⟨by decide +kernel, by decide +kernel⟩, List.mem_of_getElem? (i := 720) (by decide +kernel), List.mem_of_getElem? (i := 793) (by decide +kernel), List.mem_of_getElem? (i := 794) (by decide +kernel)⟩
theorem lw_p29 : lw_okq (⟨"VariantKitModel", "findAllele", "(III)I"⟩, 11) := ⟨⟨by decide +kernel, by decide +kernel⟩, List.mem_of_getElem? (i := 720) (by decide +kernel), List.mem_of_getElem? (i := 801) (by decide +kernel), List.mem_of_getElem? (i := 802) (by decide +kernel)⟩
theorem lw_p30 : lw_okq (⟨"VariantKitModel", "enter", "(I)I"⟩, 11) := ⟨⟨by decide +kernel, by decide +kernel⟩, List.mem_of_getElem? (i := 720) (by decide +kernel), List.mem_of_getElem? (i := 827) (by decide +kernel), List.mem_of_getElem? (i := 828) (by decide +kernel)⟩
theorem lw_p31 : lw_okq (⟨"VariantKitModel", "open", "(I)V"⟩, 11) := ⟨⟨by decide +kernel, by decide +kernel⟩, List.mem_of_getElem? (i := 720) (by decide +kernel), List.mem_of_getElem? (i := 831) (by decide +kernel), List.mem_of_getElem? (i := 832) (by decide +kernel)⟩
def lw_privs_2 : List (MethodName × Nat) := [(⟨"VariantKit", "takeTyped", "()Z"⟩, 8), (⟨"VariantKit$ByteRow", "takeNumber", "(I)I"⟩, 3), (⟨"VariantKit$ByteRow", "take", "()I"⟩, 3), (⟨"VariantKit$ByteRow", "takeAlleles", "(LVariantKit$Variant;LVariantKit$Reference;)Z"⟩, 3), (⟨"VariantKit$ByteRow", "takeBases", "(I)I"⟩, 3), (⟨"VariantKit$ByteRow", "takeNumbers", "([IIII)Z"⟩, 3), (⟨"VariantKit$ByteRow", "takeGenotype", "(LVariantKit$Variant;I)Z"⟩, 3), (⟨"VariantKitModel", "throwing", "(ZZ)Z"⟩, 11), (⟨"VariantKitModel", "empty", "(II)V"⟩, 11), (⟨"VariantKitModel", "put", "(III)V"⟩, 11), (⟨"VariantKitModel", "referenceFrom", "(II)I"⟩, 11), (⟨"VariantKitModel", "addAllele", "(III)V"⟩, 11), (⟨"VariantKitModel", "get", "(II)I"⟩, 11), (⟨"VariantKitModel", "findAllele", "(III)I"⟩, 11), (⟨"VariantKitModel", "enter", "(I)I"⟩, 11), (⟨"VariantKitModel", "open", "(I)V"⟩, 11)]
theorem lw_r2 : ∀ q ∈ lw_privs_2, lw_okq q := List.forall_mem_cons.mpr ⟨lw_p16, List.forall_mem_cons.mpr ⟨lw_p17, List.forall_mem_cons.mpr ⟨lw_p18, List.forall_mem_cons.mpr ⟨lw_p19, List.forall_mem_cons.mpr ⟨lw_p20, List.forall_mem_cons.mpr ⟨lw_p21, List.forall_mem_cons.mpr ⟨lw_p22, List.forall_mem_cons.mpr ⟨lw_p23, List.forall_mem_cons.mpr ⟨lw_p24, List.forall_mem_cons.mpr ⟨lw_p25, List.forall_mem_cons.mpr ⟨lw_p26, List.forall_mem_cons.mpr ⟨lw_p27, List.forall_mem_cons.mpr ⟨lw_p28, List.forall_mem_cons.mpr ⟨lw_p29, List.forall_mem_cons.mpr ⟨lw_p30, List.forall_mem_cons.mpr ⟨lw_p31, fun _ h => absurd h List.not_mem_nil⟩⟩⟩⟩⟩⟩⟩⟩⟩⟩⟩⟩⟩⟩⟩⟩
theorem lw_p32 : lw_okq (⟨"VariantKitModel", "copy", "(II)V"⟩, 11) := ⟨⟨by decide +kernel, by decide +kernel⟩, List.mem_of_getElem? (i := 720) (by decide +kernel), List.mem_of_getElem? (i := 835) (by decide +kernel), List.mem_of_getElem? (i := 836) (by decide +kernel)⟩
theorem lw_p33 : lw_okq (⟨"VariantKitModel", "close", "(I)V"⟩, 11) := ⟨⟨by decide +kernel, by decide +kernel⟩, List.mem_of_getElem? (i := 720) (by decide +kernel), List.mem_of_getElem? (i := 843) (by decide +kernel), List.mem_of_getElem? (i := 844) (by decide +kernel)⟩
theorem lw_p34 : lw_okq (⟨"VariantKitModel", "step", "(I)Z"⟩, 11) := ⟨⟨by decide +kernel, by decide +kernel⟩, List.mem_of_getElem? (i := 720) (by decide +kernel), List.mem_of_getElem? (i := 851) (by decide +kernel), List.mem_of_getElem? (i := 852) (by decide +kernel)⟩
theorem lw_p35 : lw_okq (⟨"VariantKitModel", "shortest", "(I)I"⟩, 11) := ⟨⟨by decide +kernel, by decide +kernel⟩, List.mem_of_getElem? (i := 720) (by decide +kernel), List.mem_of_getElem? (i := 855) (by decide +kernel), List.mem_of_getElem? (i := 856) (by decide +kernel)⟩
theorem lw_p36 : lw_okq (⟨"VariantKitModel", "same", "(IZ)Z"⟩, 11) := ⟨⟨by decide +kernel, by decide +kernel⟩, List.mem_of_getElem? (i := 720) (by decide +kernel), List.mem_of_getElem? (i := 859) (by decide +kernel), List.mem_of_getElem? (i := 860) (by decide +kernel)⟩
theorem lw_p37 : lw_okq (⟨"VariantKitModel", "edge", "(IIZ)I"⟩, 11) := ⟨⟨by decide +kernel, by decide +kernel⟩, List.mem_of_getElem? (i := 720) (by decide +kernel), List.mem_of_getElem? (i := 863) (by decide +kernel), List.mem_of_getElem? (i := 864) (by decide +kernel)⟩
theorem lw_p38 : lw_okq (⟨"VariantKitModel", "part", "(II)V"⟩, 11) := ⟨⟨by decide +kernel, by decide +kernel⟩, List.mem_of_getElem? (i := 720) (by decide +kernel), List.mem_of_getElem? (i := 871) (by decide +kernel), List.mem_of_getElem? (i := 872) (by decide +kernel)⟩
theorem lw_p39 : lw_okq (⟨"VariantKitModel", "gather", "(II)Z"⟩, 11) := ⟨⟨by decide +kernel, by decide +kernel⟩, List.mem_of_getElem? (i := 720) (by decide +kernel), List.mem_of_getElem? (i := 882) (by decide +kernel), List.mem_of_getElem? (i := 883) (by decide +kernel)⟩
theorem lw_p40 : lw_okq (⟨"VariantKitModel", "back", "(III)I"⟩, 11) := ⟨⟨by decide +kernel, by decide +kernel⟩, List.mem_of_getElem? (i := 720) (by decide +kernel), List.mem_of_getElem? (i := 886) (by decide +kernel), List.mem_of_getElem? (i := 887) (by decide +kernel)⟩
theorem lw_p41 : lw_okq (⟨"VariantKitModel", "joinSample", "(III)V"⟩, 11) := ⟨⟨by decide +kernel, by decide +kernel⟩, List.mem_of_getElem? (i := 720) (by decide +kernel), List.mem_of_getElem? (i := 890) (by decide +kernel), List.mem_of_getElem? (i := 891) (by decide +kernel)⟩
theorem lw_p42 : lw_okq (⟨"VariantKitModel", "likely", "(IIIII)I"⟩, 11) := ⟨⟨by decide +kernel, by decide +kernel⟩, List.mem_of_getElem? (i := 720) (by decide +kernel), List.mem_of_getElem? (i := 894) (by decide +kernel), List.mem_of_getElem? (i := 895) (by decide +kernel)⟩
theorem lw_p43 : lw_okq (⟨"VariantKitModel", "writeOut", "(I)V"⟩, 11) := ⟨⟨by decide +kernel, by decide +kernel⟩, List.mem_of_getElem? (i := 720) (by decide +kernel), List.mem_of_getElem? (i := 902) (by decide +kernel), List.mem_of_getElem? (i := 903) (by decide +kernel)⟩
theorem lw_p44 : lw_okq (⟨"VariantKitModel", "write", "(I)V"⟩, 11) := ⟨⟨by decide +kernel, by decide +kernel⟩, List.mem_of_getElem? (i := 720) (by decide +kernel), List.mem_of_getElem? (i := 906) (by decide +kernel), List.mem_of_getElem? (i := 907) (by decide +kernel)⟩
theorem lw_p45 : lw_okq (⟨"VariantKitModel", "writeRow", "(III)V"⟩, 11) := ⟨⟨by decide +kernel, by decide +kernel⟩, List.mem_of_getElem? (i := 720) (by decide +kernel), List.mem_of_getElem? (i := 913) (by decide +kernel), List.mem_of_getElem? (i := 914) (by decide +kernel)⟩
theorem lw_p46 : lw_okq (⟨"VariantKitModel", "taken", "()Z"⟩, 11) := ⟨⟨by decide +kernel, by decide +kernel⟩, List.mem_of_getElem? (i := 720) (by decide +kernel), List.mem_of_getElem? (i := 926) (by decide +kernel), List.mem_of_getElem? (i := 927) (by decide +kernel)⟩
theorem lw_p47 : lw_okq (⟨"VariantKitModel", "twoAt", "(I)I"⟩, 11) := ⟨⟨by decide +kernel, by decide +kernel⟩, List.mem_of_getElem? (i := 720) (by decide +kernel), List.mem_of_getElem? (i := 930) (by decide +kernel), List.mem_of_getElem? (i := 931) (by decide +kernel)⟩
def lw_privs_3 : List (MethodName × Nat) := [(⟨"VariantKitModel", "copy", "(II)V"⟩, 11), (⟨"VariantKitModel", "close", "(I)V"⟩, 11), (⟨"VariantKitModel", "step", "(I)Z"⟩, 11), (⟨"VariantKitModel", "shortest", "(I)I"⟩, 11), (⟨"VariantKitModel", "same", "(IZ)Z"⟩, 11), (⟨"VariantKitModel", "edge", "(IIZ)I"⟩, 11), (⟨"VariantKitModel", "part", "(II)V"⟩, 11), (⟨"VariantKitModel", "gather", "(II)Z"⟩, 11), (⟨"VariantKitModel", "back", "(III)I"⟩, 11), (⟨"VariantKitModel", "joinSample", "(III)V"⟩, 11), (⟨"VariantKitModel", "likely", "(IIIII)I"⟩, 11), (⟨"VariantKitModel", "writeOut", "(I)V"⟩, 11), (⟨"VariantKitModel", "write", "(I)V"⟩, 11), (⟨"VariantKitModel", "writeRow", "(III)V"⟩, 11), (⟨"VariantKitModel", "taken", "()Z"⟩, 11), (⟨"VariantKitModel", "twoAt", "(I)I"⟩, 11)]
theorem lw_r3 : ∀ q ∈ lw_privs_3, lw_okq q := List.forall_mem_cons.mpr ⟨lw_p32, List.forall_mem_cons.mpr ⟨lw_p33, List.forall_mem_cons.mpr ⟨lw_p34, List.forall_mem_cons.mpr ⟨lw_p35, List.forall_mem_cons.mpr ⟨lw_p36, List.forall_mem_cons.mpr ⟨lw_p37, List.forall_mem_cons.mpr ⟨lw_p38, List.forall_mem_cons.mpr ⟨lw_p39, List.forall_mem_cons.mpr ⟨lw_p40, List.forall_mem_cons.mpr ⟨lw_p41, List.forall_mem_cons.mpr ⟨lw_p42, List.forall_mem_cons.mpr ⟨lw_p43, List.forall_mem_cons.mpr ⟨lw_p44, List.forall_mem_cons.mpr ⟨lw_p45, List.forall_mem_cons.mpr ⟨lw_p46, List.forall_mem_cons.mpr ⟨lw_p47, fun _ h => absurd h List.not_mem_nil⟩⟩⟩⟩⟩⟩⟩⟩⟩⟩⟩⟩⟩⟩⟩⟩
theorem lw_p48 : lw_okq (⟨"VariantKitModel", "byteAt", "(I)I"⟩, 11) := ⟨⟨by decide +kernel, by decide +kernel⟩, List.mem_of_getElem? (i := 720) (by decide +kernel), List.mem_of_getElem? (i := 934) (by decide +kernel), List.mem_of_getElem? (i := 935) (by decide +kernel)⟩
theorem lw_p49 : lw_okq (⟨"VariantKitModel", "readRow", "(III)I"⟩, 11) := ⟨⟨by decide +kernel, by decide +kernel⟩, List.mem_of_getElem? (i := 720) (by decide +kernel), List.mem_of_getElem? (i := 941) (by decide +kernel), List.mem_of_getElem? (i := 942) (by decide +kernel)⟩
theorem lw_p50 : lw_okq (⟨"VariantKitModel", "inRange", "(I)Z"⟩, 11) := ⟨⟨by decide +kernel, by decide +kernel⟩, List.mem_of_getElem? (i := 720) (by decide +kernel), List.mem_of_getElem? (i := 945) (by decide +kernel), List.mem_of_getElem? (i := 946) (by decide +kernel)⟩
theorem lw_p51 : lw_okq (⟨"VariantKitModel", "binOf", "(I)I"⟩, 11) := ⟨⟨by decide +kernel, by decide +kernel⟩, List.mem_of_getElem? (i := 720) (by decide +kernel), List.mem_of_getElem? (i := 957) (by decide +kernel), List.mem_of_getElem? (i := 958) (by decide +kernel)⟩
theorem lw_p52 : lw_okq (⟨"VariantKitModel", "isBad", "(II)Z"⟩, 11) := ⟨⟨by decide +kernel, by decide +kernel⟩, List.mem_of_getElem? (i := 720) (by decide +kernel), List.mem_of_getElem? (i := 969) (by decide +kernel), List.mem_of_getElem? (i := 970) (by decide +kernel)⟩
theorem lw_p53 : lw_okq (⟨"VariantKitModel", "spans", "(III)Z"⟩, 11) := ⟨⟨by decide +kernel, by decide +kernel⟩, List.mem_of_getElem? (i := 720) (by decide +kernel), List.mem_of_getElem? (i := 973) (by decide +kernel), List.mem_of_getElem? (i := 974) (by decide +kernel)⟩
def lw_privs_4 : List (MethodName × Nat) := [(⟨"VariantKitModel", "byteAt", "(I)I"⟩, 11), (⟨"VariantKitModel", "readRow", "(III)I"⟩, 11), (⟨"VariantKitModel", "inRange", "(I)Z"⟩, 11), (⟨"VariantKitModel", "binOf", "(I)I"⟩, 11), (⟨"VariantKitModel", "isBad", "(II)Z"⟩, 11), (⟨"VariantKitModel", "spans", "(III)Z"⟩, 11)]
theorem lw_r4 : ∀ q ∈ lw_privs_4, lw_okq q := List.forall_mem_cons.mpr ⟨lw_p48, List.forall_mem_cons.mpr ⟨lw_p49, List.forall_mem_cons.mpr ⟨lw_p50, List.forall_mem_cons.mpr ⟨lw_p51, List.forall_mem_cons.mpr ⟨lw_p52, List.forall_mem_cons.mpr ⟨lw_p53, fun _ h => absurd h List.not_mem_nil⟩⟩⟩⟩⟩⟩
def lw_privs : List (MethodName × Nat) := lw_privs_1 ++ (lw_privs_2 ++ (lw_privs_3 ++ (lw_privs_4)))
def lw_tbl : List Cond := k2_sels lw_privs ++ tables_1
theorem lw_privs_ok : ∀ q ∈ lw_privs, lw_okq q := by
  show ∀ q ∈ lw_privs_1 ++ (lw_privs_2 ++ (lw_privs_3 ++ (lw_privs_4))), lw_okq q
  exact List.forall_mem_append.mpr ⟨lw_r1, List.forall_mem_append.mpr ⟨lw_r2, List.forall_mem_append.mpr ⟨lw_r3, lw_r4⟩⟩⟩

/-! ===== BEGIN words of one list among another's, by their places ===== -/
theorem goodIn_r {big : List Cond} (ws : List Cond) (ps : List Nat) (hp : ws = ps.filterMap (fun i => big[i]?)) (h : ws.all goodWord = true) : GoodIn big ws := by
  intro w hw
  have h1 := List.all_eq_true.mp h w hw
  rw [hp] at hw
  obtain ⟨i, -, hi⟩ := List.mem_filterMap.mp hw
  have hm : w ∈ big := by first | exact List.mem_of_getElem? hi | exact List.getElem?_mem hi
  exact ⟨hm, good_of_word h1⟩
theorem goodIn_app {big a b : List Cond} (ha : GoodIn big a) (hb : GoodIn big b) : GoodIn big (a ++ b) := fun w h => (List.mem_append.mp h).elim (ha w) (hb w)
theorem goodIn_ca {big a b : List Cond} {c : Cond} (ha : GoodIn big (c :: a)) (hb : GoodIn big b) : GoodIn big (c :: (a ++ b)) := fun w h => (List.mem_cons.mp h).elim (fun e => ha w (List.mem_cons.mpr (Or.inl e))) (fun h => (List.mem_append.mp h).elim (fun h => ha w (List.mem_cons.mpr (Or.inr h))) (hb w))
theorem goodIn_sub {big ws : List Cond} (hm : ∀ w ∈ ws, w ∈ big) (h : ws.all goodWord = true) : GoodIn big ws := fun w hw => ⟨hm w hw, good_of_word (List.all_eq_true.mp h w hw)⟩
/-! ===== END ===== -/

/-! ===== BEGIN exceptions that leave a method, and their catching by the caller (launches without stack traces) ===== -/
section VXA
/-! The laws vx_back, vx_callV, vx_callS, vx_callSW, vx_throw0, vx_throwS follow proofs of the library, with one case more: JvmDerived/Free/Laws.lean (Back.of_free), Shelf42/LK1.lean (callV, callS), Shelf/KitTraced.lean (throwNew0V, throwNewS). -/
/-- where a method has thrown q: the class by its name, the cell, what was written, the world -/
def vx_T (XC : String → State → State → Prop) (st : State) (q : Addr) (t : State) (mc ms : Nat) (free : Addr → Prop) : Prop :=
  ∃ (E : String) (ce : Cell) (L : List Loc), XC E st t ∧ t.heap[q]? = some ce ∧ ce.vm = .none ∧ st.vm.findClass E = some ce.cls ∧ st.WarmedH t.vm ∧ st.sameButNew ({ t with vm := st.vm } : State) L mc ms ∧ ∀ z ∈ L, free z.base
def vx_Q (Qc : Array Value → State → Outcome → State → Prop) (XC : String → State → State → Prop) (mc ms : Nat) (free : Addr → Prop) : Array Value → State → Outcome → State → Prop := fun a st o t =>
  (Qc a st o t ∧ ∃ L, FrameEnd st o t L mc ms ∧ ∀ q ∈ L, free q.base) ∨ ∃ q, o = .threw q ∧ vx_T XC st q t mc ms free
/-- a callee that returns or throws -/
def vx_Met (l : Launch) (y : MethodName) (ws : List Cond) (rm : Room) (Pc : Array Value → State → Prop) (Qc : Array Value → State → Outcome → State → Prop) (XC : String → State → State → Prop) (mc ms : Nat) (free : Addr → Prop) : Prop :=
  MetFree l y (headSpec ws rm) Pc (fun _ _ _ _ _ => True) (vx_Q Qc XC mc ms free)
def vx_Post (XC : String → State → State → Prop) (mc ms : Nat) (free : Addr → Prop) : Pt → Array Value → Addr → Pt → Prop := fun A a q B =>
  ∃ (g : JFrame) (mk : MethodId) (t : State) (L : List Loc) (E : String) (ce : Cell), B.U.heap = t.heap ∧ B.U.vm = t.vm ∧ XC E (A.U.calling g mk a) t ∧ t.heap[q]? = some ce ∧ ce.vm = .none ∧ A.U.vm.findClass E = some ce.cls ∧ B.locs = A.locs ++ L ∧ (∀ z ∈ L, free z.base) ∧ B.cells = A.cells + mc ∧ B.slots = A.slots + ms
def vx_Back (l : Launch) (R : Room) (p : Program) (e : Env) (below : List Frame) (s : State) (sargs : Array Value) (y : MethodName) (len W9 : Nat)
    (Pre : Pt → Array Value → Prop) (Post : Pt → Array Value → Option Value → Pt → Prop) (PostX : Pt → Array Value → Addr → Pt → Prop) : Prop :=
  ∀ (m : MethodId) (meth : Method) (c : Code) (A : Pt) (g : JFrame) (ig : Instr) (mk : MethodId) (a : Array Value),
    Stand p l e R s m sargs below meth c A.U A.locs A.cells A.slots → g.method = m → g.locals.size = c.maxLocals → decode c.code g.pc = .ok (ig, len) →
    2 * g.monitorRoom + (g.stack.map fun v => v.category).sum ≤ W9 → A.U.methodNamed? y = some mk → Pre A a →
    (∃ (v : Option Value) (B : Pt), Stand p l e R s m sargs below meth c B.U B.locs B.cells B.slots ∧ Post A a v B ∧
      Steps p.tables e below (doInvoke e (A.U.setTop g) [] mk a).1 (B.U.setTop { g with pc := g.pc + len, stack := v.toList ++ g.stack })) ∨
    (∃ (q : Addr) (B : Pt), Stand p l e R s m sargs below meth c B.U B.locs B.cells B.slots ∧ PostX A a q B ∧
      Steps p.tables e below (doInvoke e (A.U.setTop g) [] mk a).1 ((B.U.setTop g).pushFrame (.throwing q)))
section Payer
variable {l : Launch} {R : Room} {p : Program} {e : Env} {below : List Frame} {s : State} {sargs : Array Value} {y : MethodName} {len W9 : Nat}
theorem vx_back {ws : List Cond} {rm : Room} {Pc : Array Value → State → Prop} {Qc : Array Value → State → Outcome → State → Prop} {XC : String → State → State → Prop} {mc ms : Nat} {free : Addr → Prop} {bytes : ByteArray} {maxL : Nat} {ret : Option FieldType}
    (hM : vx_Met l y ws rm Pc Qc XC mc ms free) (hblind : FrameBlind Pc) (hrc : rm.cells = mc) (hrs : rm.slots = ms)
    (hframes : rm.frames + 1 ≤ R.frames) (hlocals : W9 + (maxL + 11) + rm.locals ≤ R.locals)
    (hws : ∀ w ∈ ws, ∀ a' U, s.WarmedH U.vm → w.before a' U = true) (hcode : Cond.code y bytes maxL ret ∈ ws) (hinit : ∀ a' U, s.WarmedH U.vm → (Cond.initialized y.cls).before a' U = true) :
    vx_Back l R p e below s sargs y len W9 (PreOf R mc ms Pc) (PostOf Qc mc ms free) (vx_Post XC mc ms free) := by
  intro m meth c A g ig mk a X hg hsize hdg hW hn hp
  have h1 : (headSpec ws rm).pre.before a A.U = true := atoms_intro fun w hw => hws w hw _ _ X.warmed
  have h2 : (Cond.code y bytes maxL ret).before a A.U = true := hws _ hcode _ _ X.warmed
  have h3 : (Cond.initialized y.cls).before a A.U = true := hinit _ _ X.warmed
  have h4 : A.cells + (headSpec ws rm).room.cells ≤ R.cells := by rw [show (headSpec ws rm).room.cells = mc from hrc]; exact hp.1
  have h5 : A.slots + (headSpec ws rm).room.slots ≤ R.slots := by rw [show (headSpec ws rm).room.slots = ms from hrs]; exact hp.2.1
  have hPc : Pc a (A.U.calling g mk a) := hblind _ _ _ _ hp.2.2
  obtain ⟨U, Ls, c0, s0⟩ := A
  dsimp only [Pt.U, Pt.locs, Pt.cells, Pt.slots] at h1 h2 h3 h4 h5 X hn hPc ⊢
  obtain ⟨methY, cY, hmY, hcY, -, hlY, -, -, -, -⟩ := Cond.code_spec hn h2
  obtain ⟨kY, hkY, -⟩ := className_of_methodNamed hn
  have hinitY : kY.init = .initialized := Cond.initialized_spec (findClass_of_methodNamed hn) hkY h3
  have h : At U g.method c below := by rw [hg]; exact X.here
  have hlocals9 : W9 + (maxL + 11) + (headSpec ws rm).room.locals ≤ R.locals := hlocals
  have happ : (headSpec ws rm).appliesLoose y e.platform (U.calling g mk a) = true :=
    Spec.appliesLoose_calling (g := g) h hdg hn hkY hinitY
      (X.room_calling (g := g) (R' := (headSpec ws rm).room) hsize hmY hcY hframes (by rw [hlY]; omega) h4 h5) h1
  obtain ⟨mid, hmid⟩ := h.above
  have hfr : (U.setTop g).frames = (.java g :: mid) ++ below := by rw [State.frames_setTop' g h.top, hmid]; rfl
  obtain ⟨o, s₂, hsteps, -, hend, hq⟩ := Steps.callFree hM p X.admits X.cas X.clock (acts := []) hfr happ hPc trivial
  have hq' : vx_Q Qc XC mc ms free a (U.calling g mk a) o s₂ := hq
  rw [State.frames_setTop' g h.top] at hend
  obtain ⟨g₀, hg0⟩ := Option.isSome_iff_exists.mp h.top
  obtain ⟨r, hr⟩ := State.topJava?_eq_some.mp hg0
  have hr' : (({ U with heap := s₂.heap, slotsUsed := s₂.slotsUsed } : State).setVm s₂.vm).frames = .java g₀ :: r := hr
  rcases hq' with ⟨hqc, L, hfe, hL⟩ | ⟨q, rfl, E, ce, L, hx, hce, hcv, hcl, hW₂, hsm, hL⟩
  · obtain ⟨⟨v, rfl⟩, hW₂, e2, q2, q3, q4, q5, q6⟩ := id hfe
    have e3 : s₂ = ({ (U.calling g mk a).setFrames s₂.frames with heap := s₂.heap, slotsUsed := s₂.slotsUsed } : State).setVm s₂.vm := by
      have : s₂ = ({ s₂ with vm := (U.calling g mk a).vm } : State).setVm s₂.vm := rfl
      rw [e2] at this
      exact this
    obtain ⟨c₂, i₂, len₂, hc₂, hd₂, hf₂⟩ := hend
    have hW' : U.WarmedH s₂.vm := hW₂
    have hcc : c₂ = c := by
      have h1 : s₂.code? g.method = U.code? g.method := by
        rw [State.code?_eq, State.code?_eq, hW'.alike.method?]
      exact Option.some.inj (hc₂.symm.trans (h1.trans h.code))
    subst hcc
    have hlen : len₂ = len := by rw [hdg] at hd₂; cases hd₂; rfl
    subst hlen
    have hs₂ : s₂ = (({ U with heap := s₂.heap, slotsUsed := s₂.slotsUsed } : State).setVm s₂.vm).setTop { g with pc := g.pc + len₂, stack := v.toList ++ g.stack } := by
      refine e3.trans ?_
      rw [hf₂, State.calling_eq h.top, State.setFrames_setFrames, State.setTop_of_frames _ hr', hr]
      rfl
    have hsame : U.sameButNew ({ U with heap := s₂.heap, slotsUsed := s₂.slotsUsed } : State) L mc ms := by
      refine ⟨?_, q2, q3, q4, q5, q6⟩
      obtain ⟨t, ht, -⟩ := State.frames_cons hr
      show ({ U with heap := s₂.heap, slotsUsed := s₂.slotsUsed } : State) = { U.setFrames U.frames with heap := s₂.heap, slotsUsed := s₂.slotsUsed }
      rw [State.setFrames_self ht]
    subst hg
    refine Or.inl ⟨v, ⟨(({ U with heap := s₂.heap, slotsUsed := s₂.slotsUsed } : State).setVm s₂.vm), Ls ++ L, c0 + mc, s0 + ms⟩,
      ⟨X.admits, X.cas, X.clock, X.frames, X.room, X.hears, X.method, X.code, (X.here.setHeapUsed s₂.heap s₂.slotsUsed).setVm hW'.alike, X.tail, State.WarmedH.trans X.warmed hW', X.limits, X.bytes, X.same.trans (hsame.setVm s.vm)⟩,
      ⟨g, mk, s₂, L, rfl, rfl, hqc, rfl, hL, rfl, rfl⟩, ?_⟩
    show Steps p.tables e below _ ((({ U with heap := s₂.heap, slotsUsed := s₂.slotsUsed } : State).setVm s₂.vm).setTop { g with pc := g.pc + len₂, stack := v.toList ++ g.stack })
    rw [← hs₂]
    exact hsteps
  · obtain ⟨e2, q2, q3, q4, q5, q6⟩ := id hsm
    have e3 : s₂ = ({ (U.calling g mk a).setFrames s₂.frames with heap := s₂.heap, slotsUsed := s₂.slotsUsed } : State).setVm s₂.vm := by
      have : s₂ = ({ s₂ with vm := (U.calling g mk a).vm } : State).setVm s₂.vm := rfl
      rw [e2] at this
      exact this
    have hf₂ : s₂.frames = .throwing q :: .java g :: U.frames.tail := hend
    have hW' : U.WarmedH s₂.vm := hW₂
    have hs₂ : s₂ = ((({ U with heap := s₂.heap, slotsUsed := s₂.slotsUsed } : State).setVm s₂.vm).setTop g).pushFrame (.throwing q) := by
      refine e3.trans ?_
      rw [hf₂, State.calling_eq h.top, State.setFrames_setFrames, State.pushFrame, State.frames_setTop _ hr', State.setTop_of_frames _ hr', State.setFrames_setFrames, hr]
      rfl
    have hsame : U.sameButNew ({ U with heap := s₂.heap, slotsUsed := s₂.slotsUsed } : State) L mc ms := by
      refine ⟨?_, q2, q3, q4, q5, q6⟩
      obtain ⟨t, ht, -⟩ := State.frames_cons hr
      show ({ U with heap := s₂.heap, slotsUsed := s₂.slotsUsed } : State) = { U.setFrames U.frames with heap := s₂.heap, slotsUsed := s₂.slotsUsed }
      rw [State.setFrames_self ht]
    subst hg
    refine Or.inr ⟨q, ⟨(({ U with heap := s₂.heap, slotsUsed := s₂.slotsUsed } : State).setVm s₂.vm), Ls ++ L, c0 + mc, s0 + ms⟩,
      ⟨X.admits, X.cas, X.clock, X.frames, X.room, X.hears, X.method, X.code, (X.here.setHeapUsed s₂.heap s₂.slotsUsed).setVm hW'.alike, X.tail, State.WarmedH.trans X.warmed hW', X.limits, X.bytes, X.same.trans (hsame.setVm s.vm)⟩,
      ⟨g, mk, s₂, L, E, ce, rfl, rfl, hx, hce, hcv, hcl, rfl, hL, rfl, rfl⟩, ?_⟩
    show Steps p.tables e below _ (((({ U with heap := s₂.heap, slotsUsed := s₂.slotsUsed } : State).setVm s₂.vm).setTop g).pushFrame (.throwing q))
    rw [← hs₂]
    exact hsteps
end Payer
section Calls
variable {p : Program} {l : Launch} {e : Env} {R : Room} {s : State} {m : MethodId} {args : Array Value} {below : List Frame} {meth : Method} {c : Code} {T : State} {locs : List Loc} {cells slots : Nat}
theorem vx_callV (X : Stand p l e R s m args below meth c T locs cells slots) (hexec : p.tables.exec = Jvm.exec) {own C : String} {index : Nat} {y : MethodName} {bytes : ByteArray} {maxL : Nat} {ret : Option FieldType}
    (hown : s.vm.findClass own = some m.cls) (hlink : (Cond.methodLink own index y).before args s = true) (hinst : (Cond.instanceMethod y).before args s = true) (hsel : (Cond.selects C y y).before args s = true)
    (hcode : (Cond.code y bytes maxL ret).before args s = true) (hy : y.cls ≠ "java/lang/invoke/MethodHandle" ∧ y.cls ≠ "java/lang/invoke/VarHandle")
    {W9 : Nat} {Pre : Pt → Array Value → Prop} {Post : Pt → Array Value → Option Value → Pt → Prop} {PostX : Pt → Array Value → Addr → Pt → Prop} (hK : vx_Back l R p e below s args y 3 W9 Pre Post PostX)
    {b : Addr} {cellB : Cell} (hcell : T.heap[b]? = some cellB) (hobj : cellB.vm.isStatics = false) (hcls : s.vm.findClass C = some cellB.cls)
    {g : JFrame} (hg : g.method = m) (hsize : g.locals.size = c.maxLocals) {argsL rest : List Value} (hlen : ∀ sig, parseMethodDescriptor y.desc = some sig → argsL.length = sig.parameters.length)
    (hstack : g.stack = argsL.reverse ++ .ref b :: rest) (hW : 2 * g.monitorRoom + (rest.map fun v => v.category).sum ≤ W9) (hdg : decode c.code g.pc = .ok (.invokevirtual index, 3))
    (hpre : ∀ vm₁, s.WarmedH vm₁ → Pre ⟨T.setVm vm₁, locs, cells, slots⟩ (Value.ref b :: argsL).toArray) :
    (∃ (v : Option Value) (vm₁ : Vm) (B : Pt), s.WarmedH vm₁ ∧ Stand p l e R s m args below meth c B.U B.locs B.cells B.slots ∧ Post ⟨T.setVm vm₁, locs, cells, slots⟩ (Value.ref b :: argsL).toArray v B ∧
      ∀ target, Steps p.tables e below (B.U.setTop { g with pc := g.pc + 3, stack := v.toList ++ rest }) target → Steps p.tables e below (T.setTop g) target) ∨
    (∃ (q : Addr) (vm₁ : Vm) (B : Pt), s.WarmedH vm₁ ∧ Stand p l e R s m args below meth c B.U B.locs B.cells B.slots ∧ PostX ⟨T.setVm vm₁, locs, cells, slots⟩ (Value.ref b :: argsL).toArray q B ∧
      Steps p.tables e below (T.setTop g) ((B.U.setTop { g with stack := rest }).pushFrame (.throwing q))) := by
  obtain ⟨mk, methM, hnamed, hmethM, hstM, habM⟩ := Cond.instanceMethod_spec hinst
  obtain ⟨methM', cM, hmethM', -, -, -, -, -, -, hsigM⟩ := Cond.code_spec hnamed hcode
  cases hmethM.symm.trans hmethM'
  obtain ⟨c2, r2, m2, q1, q2, q3, q4, kP, hkP, hkPi⟩ := Cond.selects_spec hsel
  cases hcls.symm.trans q1
  cases (State.methodFound?_of_named hnamed hy).symm.trans q2
  cases hnamed.symm.trans q3
  have hselP : selectMethod e.platform s.vm cellB.cls mk = .method mk := by rw [Launch.admits_selectMethod X.admits]; exact q4
  obtain ⟨vm₁, X₁, hstep₁⟩ := X.invokevirtual hexec hown hlink hnamed hmethM hstM hkP hkPi hy (a := b) (cell := cellB) hcell
    (fun z h => by rw [h] at hobj; cases hobj) hselP hmethM habM hkP hkPi (g := g) hg (argsL := argsL) (rest := rest) (hlen _ hsigM) hstack hdg
  rcases hK m meth c ⟨T.setVm vm₁, locs, cells, slots⟩ { g with stack := rest } (.invokevirtual index) mk (Value.ref b :: argsL).toArray X₁ hg hsize hdg hW (X₁.named hnamed) (hpre vm₁ X₁.warmed) with ⟨v, B, X', hpost, hsteps⟩ | ⟨q, B, X', hpost, hsteps⟩
  · exact Or.inl ⟨v, vm₁, B, X₁.warmed, X', hpost, fun target h => hstep₁ _ fun acts => by rw [doInvoke_state]; exact hsteps.trans h⟩
  · exact Or.inr ⟨q, vm₁, B, X₁.warmed, X', hpost, hstep₁ _ fun acts => by rw [doInvoke_state]; exact hsteps⟩
theorem vx_callS (X : Stand p l e R s m args below meth c T locs cells slots) (hexec : p.tables.exec = Jvm.exec) {own : String} {index : Nat} {y : MethodName} {bytes : ByteArray} {maxL : Nat} {ret : Option FieldType}
    (hown : s.vm.findClass own = some m.cls) (hlink : (Cond.methodLink own index y).before args s = true) (hstat : (Cond.static y).before args s = true) (hinit : (Cond.initialized y.cls).before args s = true)
    (hcode : (Cond.code y bytes maxL ret).before args s = true) (hy : y.cls ≠ "java/lang/invoke/MethodHandle" ∧ y.cls ≠ "java/lang/invoke/VarHandle")
    {W9 : Nat} {Pre : Pt → Array Value → Prop} {Post : Pt → Array Value → Option Value → Pt → Prop} {PostX : Pt → Array Value → Addr → Pt → Prop} (hK : vx_Back l R p e below s args y 3 W9 Pre Post PostX)
    {g : JFrame} (hg : g.method = m) (hsize : g.locals.size = c.maxLocals) {argsL rest : List Value} (hlen : ∀ sig, parseMethodDescriptor y.desc = some sig → argsL.length = sig.parameters.length)
    (hstack : g.stack = argsL.reverse ++ rest) (hW : 2 * g.monitorRoom + (rest.map fun v => v.category).sum ≤ W9) (hdg : decode c.code g.pc = .ok (.invokestatic index, 3))
    (hpre : ∀ vm₁, s.WarmedH vm₁ → Pre ⟨T.setVm vm₁, locs, cells, slots⟩ argsL.toArray) :
    (∃ (v : Option Value) (vm₁ : Vm) (B : Pt), s.WarmedH vm₁ ∧ Stand p l e R s m args below meth c B.U B.locs B.cells B.slots ∧ Post ⟨T.setVm vm₁, locs, cells, slots⟩ argsL.toArray v B ∧
      ∀ target, Steps p.tables e below (B.U.setTop { g with pc := g.pc + 3, stack := v.toList ++ rest }) target → Steps p.tables e below (T.setTop g) target) ∨
    (∃ (q : Addr) (vm₁ : Vm) (B : Pt), s.WarmedH vm₁ ∧ Stand p l e R s m args below meth c B.U B.locs B.cells B.slots ∧ PostX ⟨T.setVm vm₁, locs, cells, slots⟩ argsL.toArray q B ∧
      Steps p.tables e below (T.setTop g) ((B.U.setTop { g with stack := rest }).pushFrame (.throwing q))) := by
  obtain ⟨mk, hnamed⟩ := Cond.code_named hcode
  obtain ⟨methM, cM, hmethM, -, -, -, -, -, -, hsigM⟩ := Cond.code_spec hnamed hcode
  have hstatic : methM.isStatic = true := Cond.static_spec hnamed hmethM hstat
  obtain ⟨kP, hkP, -⟩ := className_of_methodNamed hnamed
  have hinitP : kP.init = .initialized := Cond.initialized_spec (findClass_of_methodNamed hnamed) hkP hinit
  obtain ⟨vm₁, X₁, hstep₁⟩ := X.invokestatic hexec hown hlink hnamed hmethM hstatic hkP hinitP hy (g := g) hg (argsL := argsL) (rest := rest) (hlen _ hsigM) hstack hdg
  rcases hK m meth c ⟨T.setVm vm₁, locs, cells, slots⟩ { g with stack := rest } (.invokestatic index) mk argsL.toArray X₁ hg hsize hdg hW (X₁.named hnamed) (hpre vm₁ X₁.warmed) with ⟨v, B, X', hpost, hsteps⟩ | ⟨q, B, X', hpost, hsteps⟩
  · exact Or.inl ⟨v, vm₁, B, X₁.warmed, X', hpost, fun target h => hstep₁ _ fun acts => by rw [doInvoke_state]; exact hsteps.trans h⟩
  · exact Or.inr ⟨q, vm₁, B, X₁.warmed, X', hpost, hstep₁ _ fun acts => by rw [doInvoke_state]; exact hsteps⟩
end Calls
theorem vx_cls {s : State} {T : State} {vm₁ : Vm} {E : String} {k : ClassId} (hW : s.WarmedH vm₁) (h : (T.setVm vm₁).vm.findClass E = some k) : s.vm.findClass E = some k := by
  have h1 : vm₁.findClass E = some k := h
  rw [hW.alike.findClass] at h1
  exact h1
/-- the method's frame g, with q thrown over it -/
def vx_W (p : Program) (l : Launch) (e : Env) (R : Room) (s : State) (m : MethodId) (args : Array Value) (below : List Frame) (meth : Method) (c : Code) (H : Heap) (locs : List Loc) (cells slots : Nat) (Q : State → Prop) (g : JFrame) (q : Addr) : Prop :=
  ∀ T : State, T.heap = H → Stand p l e R s m args below meth c T locs cells slots → ∃ t, Steps p.tables e below ((T.setTop g).pushFrame (.throwing q)) t ∧ Q t
def vx_Run (p : Program) (l : Launch) (e : Env) (R : Room) (s : State) (m : MethodId) (args : Array Value) (below : List Frame) (meth : Method) (c : Code) (H : Heap) (locs : List Loc) (cells slots mc ms : Nat) (g : JFrame) (rest : List Value) (Qa : State → Outcome → State → Prop) (XC : String → State → State → Prop) (free : Addr → Prop) : Prop :=
  ∀ T : State, T.heap = H → Stand p l e R s m args below meth c T locs cells slots →
    (∃ (v : Option Value) (st₀ t T' : State) (L : List Loc), st₀.heap = H ∧ Stand p l e R s m args below meth c T' (locs ++ L) (cells + mc) (slots + ms) ∧ (∀ q ∈ L, free q.base) ∧ T'.heap = t.heap ∧ T'.vm = t.vm ∧ Qa st₀ (.returned v) t ∧
      Goes p e below T g T' { g with pc := g.pc + 3, stack := v.toList ++ rest }) ∨
    (∃ (q : Addr) (st₀ t T' : State) (L : List Loc) (E : String) (ce : Cell), st₀.heap = H ∧ Stand p l e R s m args below meth c T' (locs ++ L) (cells + mc) (slots + ms) ∧ (∀ z ∈ L, free z.base) ∧ T'.heap = t.heap ∧ T'.vm = t.vm ∧ XC E st₀ t ∧ t.heap[q]? = some ce ∧ ce.vm = .none ∧ s.vm.findClass E = some ce.cls ∧
      Steps p.tables e below (T.setTop g) ((T'.setTop { g with stack := rest }).pushFrame (.throwing q)))
def vx_X {S : Type} (px : S → Prop) (B : String → S → State → Prop) (A : Nat → Prop) : String → State → State → Prop := fun E st t => ∃ u : S, px u ∧ B E u t ∧ va_F A st t
section Runs
variable {p : Program} {l : Launch} {e : Env} {R : Room} {s : State} {m : MethodId} {args : Array Value} {below : List Frame} {meth : Method} {c : Code} {H : Heap} {locs : List Loc} {cells slots : Nat}
variable {y : MethodName} {bytes cc : ByteArray} {maxL nL mc ms n index : Nat} {ret : Option FieldType} {ws : List Cond} {rm : Room} {Pc : Array Value → State → Prop} {Qc : Array Value → State → Outcome → State → Prop} {XC : String → State → State → Prop} {free : Addr → Prop} {Ts : List Cond} {own C : String} {b : Addr} {As rest : List Value} {g : JFrame}
theorem vx_callBack (cb : CallB R s args own index y bytes maxL ret ws rm mc ms n) (hM : vx_Met l y ws rm Pc Qc XC mc ms free) (hbl : FrameBlind Pc) : vx_Back l R p e below s args y 3 8 (PreOf R mc ms Pc) (PostOf Qc mc ms free) (vx_Post XC mc ms free) := by
  obtain ⟨hrc, hrs, hfr, hlo, hws, hcw, -, hini, -⟩ := cb
  exact vx_back (bytes := bytes) (maxL := maxL) (ret := ret) hM hbl hrc hrs hfr hlo hws hcw (fun a' U hW => word_at hW (Or.inl (by first | rfl | simp [Cond.onTables, Cond.keeps, Cond.steady])) hini)
theorem vx_runV (S : CallFix p m c cc nL s args Ts own) (hM : vx_Met l y ws rm Pc Qc XC mc ms free) (cw : CallW R s args own C index y bytes maxL ret ws rm mc ms n) (hp : PreV s H C b Pc As)
    (hg : g.method = m) (hn : As.length = n) (hsize : g.locals.size = nL) (hstack : g.stack = As.reverse ++ .ref b :: rest) (hW : 2 * g.monitorRoom + (rest.map fun v => v.category).sum ≤ 8) (hdg : decode cc g.pc = .ok (.invokevirtual index, 3)) (hf : cells + mc ≤ R.cells ∧ slots + ms ≤ R.slots) :
    vx_Run p l e R s m args below meth c H locs cells slots mc ms g rest (Qc (Value.ref b :: As).toArray) XC free := by
  have hK : vx_Back l R p e below s args y 3 8 (PreOf R mc ms Pc) (PostOf Qc mc ms free) (vx_Post XC mc ms free) := vx_callBack cw.1 hM hp.1
  obtain ⟨⟨-, -, -, -, -, -, hcode, -, hy, hlen, hl⟩, hin, hse⟩ := cw
  obtain ⟨hx, hb, hml, ho, -⟩ := S
  obtain ⟨-, ⟨cellB, hcB, hoB, hclB⟩, hPc⟩ := hp
  intro T hT X
  rcases vx_callV X hx (C := C) (bytes := bytes) (maxL := maxL) (ret := ret) ho hl hin hse hcode hy hK (by rw [hT]; exact hcB) hoB hclB hg (hsize.trans hml.symm) (argsL := As) (rest := rest) (fun sig h => hn.trans (hlen sig h)) hstack hW (by rw [hb]; exact hdg)
    (fun vm₁ hW₁ => ⟨hf.1, hf.2, hPc (T.setVm vm₁) hT hW₁⟩) with ⟨v, vm₁, ⟨U', l2, c2, s2⟩, hW₁, X', ⟨g', mk, t, L, e1, e2, hq, h1, hL, h2, h3⟩, st⟩ | ⟨q, vm₁, ⟨U', l2, c2, s2⟩, hW₁, X', ⟨g', mk, t, L, E, ce, e1, e2, hq, hce, hcv, hcl, h1, hL, h2, h3⟩, st⟩
  · dsimp only [Pt.U, Pt.locs, Pt.cells, Pt.slots] at X' e1 e2 h1 h2 h3 st
    subst h1; subst h2; subst h3
    exact Or.inl ⟨v, (T.setVm vm₁).calling g' mk (Value.ref b :: As).toArray, t, U', L, hT, X', hL, e1, e2, hq, st⟩
  · dsimp only [Pt.U, Pt.locs, Pt.cells, Pt.slots] at X' e1 e2 h1 h2 h3 st hcl
    subst h1; subst h2; subst h3
    exact Or.inr ⟨q, (T.setVm vm₁).calling g' mk (Value.ref b :: As).toArray, t, U', L, E, ce, hT, X', hL, e1, e2, hq, hce, hcv, vx_cls hW₁ hcl, st⟩
theorem vx_runS (S : CallFix p m c cc nL s args Ts own) (hM : vx_Met l y ws rm Pc Qc XC mc ms free) (cw : CallB R s args own index y bytes maxL ret ws rm mc ms n ∧ (Cond.static y).before args s = true) (hp : PreS s H Pc As)
    (hg : g.method = m) (hn : As.length = n) (hsize : g.locals.size = nL) (hstack : g.stack = As.reverse ++ rest) (hW : 2 * g.monitorRoom + (rest.map fun v => v.category).sum ≤ 8) (hdg : decode cc g.pc = .ok (.invokestatic index, 3)) (hf : cells + mc ≤ R.cells ∧ slots + ms ≤ R.slots) :
    vx_Run p l e R s m args below meth c H locs cells slots mc ms g rest (Qc As.toArray) XC free := by
  have hK : vx_Back l R p e below s args y 3 8 (PreOf R mc ms Pc) (PostOf Qc mc ms free) (vx_Post XC mc ms free) := vx_callBack cw.1 hM hp.1
  obtain ⟨⟨-, -, -, -, -, -, hcode, hini, hy, hlen, hl⟩, hstt⟩ := cw
  obtain ⟨hx, hb, hml, ho, -⟩ := S
  intro T hT X
  rcases vx_callS X hx (bytes := bytes) (maxL := maxL) (ret := ret) ho hl hstt hini hcode hy hK hg (hsize.trans hml.symm) (argsL := As) (rest := rest) (fun sig h => hn.trans (hlen sig h)) hstack hW (by rw [hb]; exact hdg)
    (fun vm₁ hW₁ => ⟨hf.1, hf.2, hp.2 (T.setVm vm₁) hT hW₁⟩) with ⟨v, vm₁, ⟨U', l2, c2, s2⟩, hW₁, X', ⟨g', mk, t, L, e1, e2, hq, h1, hL, h2, h3⟩, st⟩ | ⟨q, vm₁, ⟨U', l2, c2, s2⟩, hW₁, X', ⟨g', mk, t, L, E, ce, e1, e2, hq, hce, hcv, hcl, h1, hL, h2, h3⟩, st⟩
  · dsimp only [Pt.U, Pt.locs, Pt.cells, Pt.slots] at X' e1 e2 h1 h2 h3 st
    subst h1; subst h2; subst h3
    exact Or.inl ⟨v, (T.setVm vm₁).calling g' mk As.toArray, t, U', L, hT, X', hL, e1, e2, hq, st⟩
  · dsimp only [Pt.U, Pt.locs, Pt.cells, Pt.slots] at X' e1 e2 h1 h2 h3 st hcl
    subst h1; subst h2; subst h3
    exact Or.inr ⟨q, (T.setVm vm₁).calling g' mk As.toArray, t, U', L, E, ce, hT, X', hL, e1, e2, hq, hce, hcv, vx_cls hW₁ hcl, st⟩
end Runs
section Rows
variable {p : Program} {l : Launch} {e : Env} {R : Room} {s : State} {m : MethodId} {args : Array Value} {below : List Frame} {meth : Method} {c : Code} {H : Heap} {locs : List Loc} {cells slots : Nat} {Q : State → Prop}
variable {mc ms : Nat} {free : Addr → Prop} {A0 A1 : Nat → Prop} {H0 : Heap} {a : Array Value} {pc : Nat} {ls : Array Slot} {st0 rest : List Value}
theorem vx_keep {st₀ t T' : State} {L : List Loc} (h0 : st₀.heap = H) (e1 : T'.heap = t.heap) (hS : va_S A0 H0 H locs) (hA : ∀ q, q < H.size → A1 q → A0 q) (hf : ∀ q, free q → A0 q) (hL : ∀ q ∈ L, free q.base) (hF : va_F A1 st₀ t) :
    H.size ≤ T'.heap.size ∧ (∀ q : Nat, q < H.size → ¬ A1 q → T'.heap[q]? = H[q]?) ∧ va_S A0 H0 T'.heap (locs ++ L) := by
  obtain ⟨hz, hk⟩ := hF
  rw [h0] at hz hk
  exact ⟨by rw [e1]; exact hz, fun q h1 h2 => by rw [e1]; exact hk q h1 h2,
    ⟨Nat.le_trans hS.1 (by rw [e1]; exact hz), fun q h1 h2 => by rw [e1, hk q (Nat.lt_of_lt_of_le h1 hS.1) (fun z => h2 (hA q (Nat.lt_of_lt_of_le h1 hS.1) z))]; exact hS.2.1 q h1 h2, fun q hq => by
      rcases List.mem_append.mp hq with h | h
      · exact hS.2.2 q h
      · exact hf _ (hL q h)⟩⟩
theorem vx_calli {S SX : Type} {post : Int32 → S → Prop} {px : SX → Prop} {B : S → State → Prop} {BX : String → SX → State → Prop} {AX : Nat → Prop} (hr : vx_Run p l e R s m args below meth c H locs cells slots mc ms (F0 m pc ls st0) rest (va_Qi post B A1 a) (vx_X px BX AX) free) (hS : va_S A0 H0 H locs) (hA : ∀ q, q < H.size → A1 q → A0 q) (hf : ∀ q, free q → A0 q) (hAX : ∀ q, q < H.size → AX q → A0 q)
    (kx : ∀ (E : String) (ce : Cell) (q9 : Addr) (u : SX) (t : State) (H1 : Heap) (locs1 : List Loc), t.heap = H1 → s.vm.Alike t.vm → px u → BX E u t → H.size ≤ H1.size → (∀ q : Nat, q < H.size → ¬ AX q → H1[q]? = H[q]?) → va_S A0 H0 H1 locs1 → H1[q9]? = some ce → ce.vm = .none → s.vm.findClass E = some ce.cls → vx_W p l e R s m args below meth c H1 locs1 (cells + mc) (slots + ms) Q (F0 m pc ls rest) q9)
    (kk : ∀ (r : Int32) (u : S) (t : State) (H1 : Heap) (locs1 : List Loc), t.heap = H1 → s.vm.Alike t.vm → post r u → B u t → H.size ≤ H1.size → (∀ q : Nat, q < H.size → ¬ A1 q → H1[q]? = H[q]?) → va_S A0 H0 H1 locs1 → W p l e R s m args below meth c H1 locs1 (cells + mc) (slots + ms) Q (F0 m (pc + 3) ls (.int r :: rest))) : W p l e R s m args below meth c H locs cells slots Q (F0 m pc ls st0) := by
  intro T hT X
  rcases hr T hT X with ⟨v, st₀, t, T', L, h0, X', hL, e1, e2, ⟨⟨r, u, hv, hp, hb⟩, hF⟩, st⟩ | ⟨q, st₀, t, T', L, E, ce, h0, X', hL, e1, e2, ⟨u, hp, hb, hF⟩, hce, hcv, hcl, st⟩
  · cases hv
    obtain ⟨k1, k2, k3⟩ := vx_keep h0 e1 hS hA hf hL hF
    obtain ⟨t2, a1, b1⟩ := kk r u t T'.heap (locs ++ L) e1.symm (by rw [← e2]; exact X'.warmed.alike) hp hb k1 k2 k3 T' rfl X'
    exact ⟨t2, st t2 a1, b1⟩
  · obtain ⟨k1, k2, k3⟩ := vx_keep h0 e1 hS hAX hf hL hF
    obtain ⟨t2, a1, b1⟩ := kx E ce q u t T'.heap (locs ++ L) e1.symm (by rw [← e2]; exact X'.warmed.alike) hp hb k1 k2 k3 (by rw [e1]; exact hce) hcv hcl T' rfl X'
    exact ⟨t2, st.trans a1, b1⟩
theorem vx_calll {S SX : Type} {post : Int64 → S → Prop} {px : SX → Prop} {B : S → State → Prop} {BX : String → SX → State → Prop} {AX : Nat → Prop} (hr : vx_Run p l e R s m args below meth c H locs cells slots mc ms (F0 m pc ls st0) rest (va_Ql post B A1 a) (vx_X px BX AX) free) (hS : va_S A0 H0 H locs) (hA : ∀ q, q < H.size → A1 q → A0 q) (hf : ∀ q, free q → A0 q) (hAX : ∀ q, q < H.size → AX q → A0 q)
    (kx : ∀ (E : String) (ce : Cell) (q9 : Addr) (u : SX) (t : State) (H1 : Heap) (locs1 : List Loc), t.heap = H1 → s.vm.Alike t.vm → px u → BX E u t → H.size ≤ H1.size → (∀ q : Nat, q < H.size → ¬ AX q → H1[q]? = H[q]?) → va_S A0 H0 H1 locs1 → H1[q9]? = some ce → ce.vm = .none → s.vm.findClass E = some ce.cls → vx_W p l e R s m args below meth c H1 locs1 (cells + mc) (slots + ms) Q (F0 m pc ls rest) q9)
    (kk : ∀ (r : Int64) (u : S) (t : State) (H1 : Heap) (locs1 : List Loc), t.heap = H1 → s.vm.Alike t.vm → post r u → B u t → H.size ≤ H1.size → (∀ q : Nat, q < H.size → ¬ A1 q → H1[q]? = H[q]?) → va_S A0 H0 H1 locs1 → W p l e R s m args below meth c H1 locs1 (cells + mc) (slots + ms) Q (F0 m (pc + 3) ls (.long r :: rest))) : W p l e R s m args below meth c H locs cells slots Q (F0 m pc ls st0) := by
  intro T hT X
  rcases hr T hT X with ⟨v, st₀, t, T', L, h0, X', hL, e1, e2, ⟨⟨r, u, hv, hp, hb⟩, hF⟩, st⟩ | ⟨q, st₀, t, T', L, E, ce, h0, X', hL, e1, e2, ⟨u, hp, hb, hF⟩, hce, hcv, hcl, st⟩
  · cases hv
    obtain ⟨k1, k2, k3⟩ := vx_keep h0 e1 hS hA hf hL hF
    obtain ⟨t2, a1, b1⟩ := kk r u t T'.heap (locs ++ L) e1.symm (by rw [← e2]; exact X'.warmed.alike) hp hb k1 k2 k3 T' rfl X'
    exact ⟨t2, st t2 a1, b1⟩
  · obtain ⟨k1, k2, k3⟩ := vx_keep h0 e1 hS hAX hf hL hF
    obtain ⟨t2, a1, b1⟩ := kx E ce q u t T'.heap (locs ++ L) e1.symm (by rw [← e2]; exact X'.warmed.alike) hp hb k1 k2 k3 (by rw [e1]; exact hce) hcv hcl T' rfl X'
    exact ⟨t2, st.trans a1, b1⟩
theorem vx_callf {S SX : Type} {post : UInt32 → S → Prop} {px : SX → Prop} {B : S → State → Prop} {BX : String → SX → State → Prop} {AX : Nat → Prop} (hr : vx_Run p l e R s m args below meth c H locs cells slots mc ms (F0 m pc ls st0) rest (va_Qf post B A1 a) (vx_X px BX AX) free) (hS : va_S A0 H0 H locs) (hA : ∀ q, q < H.size → A1 q → A0 q) (hf : ∀ q, free q → A0 q) (hAX : ∀ q, q < H.size → AX q → A0 q)
    (kx : ∀ (E : String) (ce : Cell) (q9 : Addr) (u : SX) (t : State) (H1 : Heap) (locs1 : List Loc), t.heap = H1 → s.vm.Alike t.vm → px u → BX E u t → H.size ≤ H1.size → (∀ q : Nat, q < H.size → ¬ AX q → H1[q]? = H[q]?) → va_S A0 H0 H1 locs1 → H1[q9]? = some ce → ce.vm = .none → s.vm.findClass E = some ce.cls → vx_W p l e R s m args below meth c H1 locs1 (cells + mc) (slots + ms) Q (F0 m pc ls rest) q9)
    (kk : ∀ (r : UInt32) (u : S) (t : State) (H1 : Heap) (locs1 : List Loc), t.heap = H1 → s.vm.Alike t.vm → post r u → B u t → H.size ≤ H1.size → (∀ q : Nat, q < H.size → ¬ A1 q → H1[q]? = H[q]?) → va_S A0 H0 H1 locs1 → W p l e R s m args below meth c H1 locs1 (cells + mc) (slots + ms) Q (F0 m (pc + 3) ls (.float r :: rest))) : W p l e R s m args below meth c H locs cells slots Q (F0 m pc ls st0) := by
  intro T hT X
  rcases hr T hT X with ⟨v, st₀, t, T', L, h0, X', hL, e1, e2, ⟨⟨r, u, hv, hp, hb⟩, hF⟩, st⟩ | ⟨q, st₀, t, T', L, E, ce, h0, X', hL, e1, e2, ⟨u, hp, hb, hF⟩, hce, hcv, hcl, st⟩
  · cases hv
    obtain ⟨k1, k2, k3⟩ := vx_keep h0 e1 hS hA hf hL hF
    obtain ⟨t2, a1, b1⟩ := kk r u t T'.heap (locs ++ L) e1.symm (by rw [← e2]; exact X'.warmed.alike) hp hb k1 k2 k3 T' rfl X'
    exact ⟨t2, st t2 a1, b1⟩
  · obtain ⟨k1, k2, k3⟩ := vx_keep h0 e1 hS hAX hf hL hF
    obtain ⟨t2, a1, b1⟩ := kx E ce q u t T'.heap (locs ++ L) e1.symm (by rw [← e2]; exact X'.warmed.alike) hp hb k1 k2 k3 (by rw [e1]; exact hce) hcv hcl T' rfl X'
    exact ⟨t2, st.trans a1, b1⟩
theorem vx_calld {S SX : Type} {post : UInt64 → S → Prop} {px : SX → Prop} {B : S → State → Prop} {BX : String → SX → State → Prop} {AX : Nat → Prop} (hr : vx_Run p l e R s m args below meth c H locs cells slots mc ms (F0 m pc ls st0) rest (va_Qd post B A1 a) (vx_X px BX AX) free) (hS : va_S A0 H0 H locs) (hA : ∀ q, q < H.size → A1 q → A0 q) (hf : ∀ q, free q → A0 q) (hAX : ∀ q, q < H.size → AX q → A0 q)
    (kx : ∀ (E : String) (ce : Cell) (q9 : Addr) (u : SX) (t : State) (H1 : Heap) (locs1 : List Loc), t.heap = H1 → s.vm.Alike t.vm → px u → BX E u t → H.size ≤ H1.size → (∀ q : Nat, q < H.size → ¬ AX q → H1[q]? = H[q]?) → va_S A0 H0 H1 locs1 → H1[q9]? = some ce → ce.vm = .none → s.vm.findClass E = some ce.cls → vx_W p l e R s m args below meth c H1 locs1 (cells + mc) (slots + ms) Q (F0 m pc ls rest) q9)
    (kk : ∀ (r : UInt64) (u : S) (t : State) (H1 : Heap) (locs1 : List Loc), t.heap = H1 → s.vm.Alike t.vm → post r u → B u t → H.size ≤ H1.size → (∀ q : Nat, q < H.size → ¬ A1 q → H1[q]? = H[q]?) → va_S A0 H0 H1 locs1 → W p l e R s m args below meth c H1 locs1 (cells + mc) (slots + ms) Q (F0 m (pc + 3) ls (.double r :: rest))) : W p l e R s m args below meth c H locs cells slots Q (F0 m pc ls st0) := by
  intro T hT X
  rcases hr T hT X with ⟨v, st₀, t, T', L, h0, X', hL, e1, e2, ⟨⟨r, u, hv, hp, hb⟩, hF⟩, st⟩ | ⟨q, st₀, t, T', L, E, ce, h0, X', hL, e1, e2, ⟨u, hp, hb, hF⟩, hce, hcv, hcl, st⟩
  · cases hv
    obtain ⟨k1, k2, k3⟩ := vx_keep h0 e1 hS hA hf hL hF
    obtain ⟨t2, a1, b1⟩ := kk r u t T'.heap (locs ++ L) e1.symm (by rw [← e2]; exact X'.warmed.alike) hp hb k1 k2 k3 T' rfl X'
    exact ⟨t2, st t2 a1, b1⟩
  · obtain ⟨k1, k2, k3⟩ := vx_keep h0 e1 hS hAX hf hL hF
    obtain ⟨t2, a1, b1⟩ := kx E ce q u t T'.heap (locs ++ L) e1.symm (by rw [← e2]; exact X'.warmed.alike) hp hb k1 k2 k3 (by rw [e1]; exact hce) hcv hcl T' rfl X'
    exact ⟨t2, st.trans a1, b1⟩
theorem vx_callv {S SX : Type} {post : S → Prop} {px : SX → Prop} {B : S → State → Prop} {BX : String → SX → State → Prop} {AX : Nat → Prop} (hr : vx_Run p l e R s m args below meth c H locs cells slots mc ms (F0 m pc ls st0) rest (va_Qv post B A1 a) (vx_X px BX AX) free) (hS : va_S A0 H0 H locs) (hA : ∀ q, q < H.size → A1 q → A0 q) (hf : ∀ q, free q → A0 q) (hAX : ∀ q, q < H.size → AX q → A0 q)
    (kx : ∀ (E : String) (ce : Cell) (q9 : Addr) (u : SX) (t : State) (H1 : Heap) (locs1 : List Loc), t.heap = H1 → s.vm.Alike t.vm → px u → BX E u t → H.size ≤ H1.size → (∀ q : Nat, q < H.size → ¬ AX q → H1[q]? = H[q]?) → va_S A0 H0 H1 locs1 → H1[q9]? = some ce → ce.vm = .none → s.vm.findClass E = some ce.cls → vx_W p l e R s m args below meth c H1 locs1 (cells + mc) (slots + ms) Q (F0 m pc ls rest) q9)
    (kk : ∀ (u : S) (t : State) (H1 : Heap) (locs1 : List Loc), t.heap = H1 → s.vm.Alike t.vm → post u → B u t → H.size ≤ H1.size → (∀ q : Nat, q < H.size → ¬ A1 q → H1[q]? = H[q]?) → va_S A0 H0 H1 locs1 → W p l e R s m args below meth c H1 locs1 (cells + mc) (slots + ms) Q (F0 m (pc + 3) ls (rest))) : W p l e R s m args below meth c H locs cells slots Q (F0 m pc ls st0) := by
  intro T hT X
  rcases hr T hT X with ⟨v, st₀, t, T', L, h0, X', hL, e1, e2, ⟨⟨u, hv, hp, hb⟩, hF⟩, st⟩ | ⟨q, st₀, t, T', L, E, ce, h0, X', hL, e1, e2, ⟨u, hp, hb, hF⟩, hce, hcv, hcl, st⟩
  · cases hv
    obtain ⟨k1, k2, k3⟩ := vx_keep h0 e1 hS hA hf hL hF
    obtain ⟨t2, a1, b1⟩ := kk u t T'.heap (locs ++ L) e1.symm (by rw [← e2]; exact X'.warmed.alike) hp hb k1 k2 k3 T' rfl X'
    exact ⟨t2, st t2 a1, b1⟩
  · obtain ⟨k1, k2, k3⟩ := vx_keep h0 e1 hS hAX hf hL hF
    obtain ⟨t2, a1, b1⟩ := kx E ce q u t T'.heap (locs ++ L) e1.symm (by rw [← e2]; exact X'.warmed.alike) hp hb k1 k2 k3 (by rw [e1]; exact hce) hcv hcl T' rfl X'
    exact ⟨t2, st.trans a1, b1⟩
/-- caught by the row x of this method's table; the rows ahead don't take it -/
theorem vx_catch {own name : String} {E : String} {ce : Cell} {q : Addr} (hown : s.vm.findClass own = some m.cls) (pre : List ExceptionTableEntry) (x : ExceptionTableEntry) (suf : List ExceptionTableEntry) (hsplit : c.exceptionTable.toList = pre ++ x :: suf)
    (hpass : ∀ z ∈ pre, covers z pc = false ∨ (z.catchType ≠ 0 ∧ ∃ nm : String, (Cond.classLink own z.catchType nm).before args s = true ∧ va_Nc E nm s)) (hx : covers x pc = true) (h0 : x.catchType ≠ 0)
    (hlink : (Cond.classLink own x.catchType name).before args s = true) (hcast : (Cond.castable E name).before args s = true) (hcell : H[q]? = some ce) (hv : ce.vm = .none) (hcl : s.vm.findClass E = some ce.cls)
    (kk : W p l e R s m args below meth c H locs cells slots Q (F0 m x.handlerPc ls [.ref q])) : vx_W p l e R s m args below meth c H locs cells slots Q (F0 m pc ls rest) q := by
  intro T hT X
  have hpl : e.platform.magicAccessors = ({} : Platform).magicAccessors := by rw [X.admits.platform]
  obtain ⟨c3, c4, hc3, hc4, hasg⟩ := Cond.castable_spec hcast
  cases Option.some.inj (hc3.symm.trans hcl)
  obtain ⟨c5, hc5, hcl5⟩ := Cond.classLink_spec hown hlink e.platform hpl
  cases Option.some.inj (hc4.symm.trans hc5)
  obtain ⟨vm', X', st⟩ := Stand.thenCaughtThrough X q (g := F0 m pc ls rest) rfl (Steps.refl _) (by rw [hT]; exact hcell) (by rw [hv]; rfl) (by obtain ⟨k9, h9, -⟩ := Vm.findClass_spec hcl; exact ⟨k9, h9⟩) pre x suf hsplit
    (fun z hz => by
      rcases hpass z hz with h | ⟨hz0, nm, hl1, hn1⟩
      · exact Or.inl h
      · obtain ⟨c6, hc6, hcl6⟩ := Cond.classLink_spec hown hl1 e.platform hpl
        obtain ⟨a8, b8, h1, h2, h3⟩ := hn1
        cases Option.some.inj (h1.symm.trans hcl)
        cases Option.some.inj (h2.symm.trans hc6)
        exact Or.inr ⟨hz0, _, hcl6, h3⟩) hx (Or.inr ⟨h0, c4, hcl5, hasg⟩)
  obtain ⟨t, a1, b1⟩ := kk (T.setVm vm') hT X'
  exact ⟨t, st.trans a1, b1⟩
end Rows
section Ends
variable {p : Program} {l : Launch} {e : Env} {R : Room} {s : State} {m : MethodId} {args : Array Value} {below : List Frame} {meth : Method} {c : Code} {H : Heap} {locs : List Loc} {cells slots : Nat} {Q : State → Prop}
variable {mc ms : Nat} {free : Addr → Prop} {A0 A1 : Nat → Prop} {H0 : Heap} {a : Array Value} {ls : Array Slot} {st0 rest : List Value}
variable {Qc : Array Value → State → Outcome → State → Prop} {XC : String → State → State → Prop}
/-- what a body that may throw owes at its end -/
def vx_MQ (below : List Frame) (Qc : Array Value → State → Outcome → State → Prop) (XC : String → State → State → Prop) (a : Array Value) (s : State) (mc ms : Nat) (free : Addr → Prop) : State → Prop := fun t =>
  ∃ o, t.status = .running ∧ Ended t below o ∧ vx_Q Qc XC mc ms free a s o t
theorem vx_ret {g : JFrame} {mc ms : Nat} (k : W p l e R s m args below meth c H locs cells slots (MQ below Qc args s mc ms free) g) : W p l e R s m args below meth c H locs cells slots (vx_MQ below Qc XC args s mc ms free) g := by
  intro T hT X
  obtain ⟨t, a1, o, b1, b2, b3, b4⟩ := k T hT X
  exact ⟨t, a1, o, b1, b2, Or.inl ⟨b3, b4⟩⟩
/-- not caught here: it goes on to the caller -/
theorem vx_widen {g : JFrame} {q : Addr} {k n : Nat} (h1 : cells ≤ k) (h2 : slots ≤ n) (kk : vx_W p l e R s m args below meth c H locs k n Q g q) : vx_W p l e R s m args below meth c H locs cells slots Q g q := fun T hT X => kk T hT (stand_widen X h1 h2)
theorem vx_out {pc : Nat} {E : String} {ce : Cell} {q : Addr} {mc ms : Nat} (hout : ∀ x ∈ c.exceptionTable.toList, covers x pc = false) (hlocks : meth.locks = false) (hcell : H[q]? = some ce) (hv : ce.vm = .none) (hcl : s.vm.findClass E = some ce.cls)
    (hx : ∀ t : State, t.heap = H → s.vm.Alike t.vm → XC E s t) (hf : ∀ z ∈ locs, free z.base) (hc : cells ≤ mc) (hs : slots ≤ ms) :
    vx_W p l e R s m args below meth c H locs cells slots (vx_MQ below Qc XC args s mc ms free) (F0 m pc ls rest) q := by
  intro T hT X
  obtain ⟨st1, hrun, hend, hW, hsm⟩ := X.leaveThrown q (g := F0 m pc ls rest) rfl rfl rfl hout hlocks
  have hcell9 : (T.setFrames (.throwing q :: below)).heap[q]? = some ce := by
    show T.heap[q]? = some ce
    rw [hT]; exact hcell
  exact ⟨_, st1, .threw q, hrun, hend, Or.inr ⟨q, rfl, E, ce, locs, hx _ hT hW.alike, hcell9, hv, hcl, hW, hsm.mono hc hs, hf⟩⟩
theorem vx_frame {U : State} {k n : Nat} (h : s.sameButNew ({ U with vm := s.vm } : State) locs k n) : s.heap.size ≤ U.heap.size ∧ ∀ q : Nat, q < s.heap.size → (∀ z ∈ locs, z.base ≠ q) → U.heap[q]? = s.heap[q]? := by
  obtain ⟨-, h2, -, -, -, h6⟩ := h
  refine ⟨h2, fun q hq hz => ?_⟩
  obtain ⟨c9, e1, e2, e3, e4⟩ := h6 q _ (Array.getElem?_eq_getElem hq)
  have hs : c9.slots = (s.heap[q]).slots := Array.ext_getElem? fun i => e4 i fun hm => hz _ hm rfl
  have h9 : c9 = s.heap[q] := by
    rw [hs] at e2
    exact e2
  have e5 : U.heap[q]? = some c9 := e1
  rw [e5, h9, Array.getElem?_eq_getElem hq]
/-- the words of a throw but the four that speak of the heap -/
def vx_no (w : Cond) : Bool := decide (w ≠ .isRef (.static Bundle.tN "UNASSIGNED_STACK" Bundle.steD)) && decide (w ≠ .isRef (.static Bundle.tN "SUPPRESSED_SENTINEL" Bundle.listD)) && decide (w ≠ .laysStatic Bundle.tN "UNASSIGNED_STACK" Bundle.steD) && decide (w ≠ .laysStatic Bundle.tN "SUPPRESSED_SENTINEL" Bundle.listD)
def vx_at0 (own : String) (ic : Nat) (X : String) (names : List String) : List Cond := (Bundle.ownAtoms0 own ic X names).filter vx_no
def vx_atS (own : String) (ic : Nat) (X : String) (names : List String) : List Cond := (Bundle.ownAtoms own ic X names).filter vx_no
/-- a word that the tables alone decide, or a good one -/
def vx_ot (w : Cond) : Bool := w.onTables || goodWord w
theorem vx_ot_at {args a' : Array Value} {s U : State} {w : Cond} (hW : s.WarmedH U.vm) (hvm : s.vm = U.vm) (hg : vx_ot w = true) (h : w.before args s = true) : w.before a' U = true := by
  simp only [vx_ot, Bool.or_eq_true] at hg
  rcases hg with hg | hg
  · exact va_tabs hg hvm h
  · exact word_at hW (good_of_word hg) h
/-- a list's words: the good ones out of the method's own list, the others by premises of their own -/
theorem vx_hat {args : Array Value} {s : State} {L B : List Cond} (h1 : ∀ w ∈ L.filter goodWord, w.before args s = true) (h2 : ∀ w ∈ L.filter (fun w => !goodWord w), w ∈ B) (h3 : ∀ w ∈ B, w.before args s = true) : ∀ w ∈ L, w.before args s = true := by
  intro w hw
  by_cases g : goodWord w = true
  · exact h1 w (List.mem_filter.mpr ⟨hw, g⟩)
  · refine h3 w (h2 w (List.mem_filter.mpr ⟨hw, ?_⟩))
    show (!goodWord w) = true
    cases hgw : goodWord w
    · rfl
    · exact absurd hgw g
theorem vx_c {args : Array Value} {s : State} {w : Cond} {B : List Cond} (h : w.before args s = true) (t : ∀ w ∈ B, w.before args s = true) : ∀ w' ∈ w :: B, w'.before args s = true := fun w' h' => (List.mem_cons.mp h').elim (fun e => by rw [e]; exact h) (t w')
theorem vx_n {args : Array Value} {s : State} : ∀ w ∈ ([] : List Cond), w.before args s = true := fun _ h => nomatch h
theorem vx_own {args : Array Value} {s : State} {L : List Cond} (h1 : ∀ w ∈ L.filter vx_no, w.before args s = true)
    (hU : (Cond.isRef (.static Bundle.tN "UNASSIGNED_STACK" Bundle.steD)).before args s = true) (hN : (Cond.isRef (.static Bundle.tN "SUPPRESSED_SENTINEL" Bundle.listD)).before args s = true)
    (lU : (Cond.laysStatic Bundle.tN "UNASSIGNED_STACK" Bundle.steD).before args s = true) (lN : (Cond.laysStatic Bundle.tN "SUPPRESSED_SENTINEL" Bundle.listD).before args s = true) : ∀ w ∈ L, w.before args s = true := by
  intro w hw
  by_cases e1 : w = .isRef (.static Bundle.tN "UNASSIGNED_STACK" Bundle.steD)
  · rw [e1]; exact hU
  · by_cases e2 : w = .isRef (.static Bundle.tN "SUPPRESSED_SENTINEL" Bundle.listD)
    · rw [e2]; exact hN
    · by_cases e3 : w = .laysStatic Bundle.tN "UNASSIGNED_STACK" Bundle.steD
      · rw [e3]; exact lU
      · by_cases e4 : w = .laysStatic Bundle.tN "SUPPRESSED_SENTINEL" Bundle.listD
        · rw [e4]; exact lN
        · exact h1 w (List.mem_filter.mpr ⟨hw, by unfold vx_no; rw [decide_eq_true e1, decide_eq_true e2, decide_eq_true e3, decide_eq_true e4]; rfl⟩)
/-- where a static field lies, its class's statics cell in H -/
def vx_L (C n d : String) (A : Nat → Prop) (U : State) (H : Heap) : Prop := ∃ (c : ClassId) (k : Class) (i : Nat) (f : Field) (a : Nat) (cell : Cell), U.vm.findClass C = some c ∧ U.fieldFound? C n d = some (c, k, i, f) ∧ f.isStatic = true ∧ k.statics = some a ∧ H[a]? = some cell ∧ cell.vm.isStatics = true ∧ cell.cls = c ∧ f.slot < cell.slots.size ∧ k.staticTypes[f.slot]? = some f.type ∧ ¬ A a
theorem vx_L.moved {C n d : String} {A : Nat → Prop} {u U : State} {H : Heap} (hvm : u.vm.Alike U.vm) (h : vx_L C n d A u H) : vx_L C n d A U H := by
  obtain ⟨c, k, i, f, a, cell, h1, h2, h3, h4, h5, h6, h7, h8, h9, h10⟩ := h
  obtain ⟨k', hi', he⟩ := State.fieldFound?_setVm hvm h2
  exact ⟨c, k', i, f, a, cell, by rw [hvm.findClass]; exact h1, hi', h3, by rw [he]; exact h4, h5, h6, h7, h8, by rw [he]; exact h9, h10⟩
theorem vx_L.kept {C n d : String} {A : Nat → Prop} {U : State} {H H1 : Heap} (h : vx_L C n d A U H) (hq : ∀ a : Nat, a < H.size → ¬ A a → H1[a]? = H[a]?) : vx_L C n d A U H1 := by
  obtain ⟨c, k, i, f, a, cell, h1, h2, h3, h4, h5, h6, h7, h8, h9, h10⟩ := h
  exact ⟨c, k, i, f, a, cell, h1, h2, h3, h4, by rw [hq a (Array.getElem?_eq_some_iff.mp h5).1 h10]; exact h5, h6, h7, h8, h9, h10⟩
theorem vx_L.narrow {C n d : String} {A B : Nat → Prop} {U : State} {H : Heap} (h : vx_L C n d A U H) (hAB : ∀ q, B q → A q) : vx_L C n d B U H := by
  obtain ⟨c, k, i, f, a, cell, h1, h2, h3, h4, h5, h6, h7, h8, h9, h10⟩ := h
  exact ⟨c, k, i, f, a, cell, h1, h2, h3, h4, h5, h6, h7, h8, h9, fun z => h10 (hAB _ z)⟩
theorem vx_L.word {C n d : String} {A : Nat → Prop} {s : State} {args : Array Value} (h : vx_L C n d A s s.heap) : (Cond.laysStatic C n d).before args s = true := by
  obtain ⟨c, k, i, f, a, cell, h1, h2, h3, h4, h5, h6, h7, h8, h9, -⟩ := h
  show (Cond.laysStatic C n d).holds args s none s [] = true
  exact Cond.laysStatic_of h1 h2 h3 h4 h5 h6 h7 h8 h9
/-- .. and what it holds: null or some reference -/
def vx_Zq (C n d : String) (A : Nat → Prop) (U : State) (H : Heap) : Prop := va_Zq C n d A U H ∧ vx_L C n d A U H
theorem vx_Zq.moved {C n d : String} {A : Nat → Prop} {u U : State} {H : Heap} (hvm : u.vm.Alike U.vm) (h : vx_Zq C n d A u H) : vx_Zq C n d A U H := ⟨va_Zq.moved hvm h.1, vx_L.moved hvm h.2⟩
theorem vx_Zq.kept {C n d : String} {A : Nat → Prop} {U : State} {H H1 : Heap} (h : vx_Zq C n d A U H) (hq : ∀ a : Nat, a < H.size → ¬ A a → H1[a]? = H[a]?) : vx_Zq C n d A U H1 := ⟨va_Zq.kept h.1 hq, vx_L.kept h.2 hq⟩
theorem vx_Zq.narrow {C n d : String} {A B : Nat → Prop} {U : State} {H : Heap} (h : vx_Zq C n d A U H) (hAB : ∀ q, B q → A q) : vx_Zq C n d B U H := ⟨va_Zq.narrow h.1 hAB, vx_L.narrow h.2 hAB⟩
theorem vx_Zqof {args : Array Value} {s : State} {C n d : String} {A : Nat → Prop} (hl : (Cond.laysStatic C n d).before args s = true) (hini : (Cond.initialized C).before args s = true) (h : (Cond.isRef (.static C n d)).before args s = true) (hA : ∀ a : Nat, a < s.heap.size → ¬ A a) : vx_Zq C n d A s s.heap := by
  refine ⟨va_Zqof hl hini h hA, ?_⟩
  obtain ⟨c, k, i, f, a, cell, h1, h2, h3, h4, h5, h6, h7, h8, h9⟩ := Cond.laysStatic_spec hl
  exact ⟨c, k, i, f, a, cell, h1, h2, h3, h4, h5, h6, h7, h8, h9, hA a (Array.getElem?_eq_some_iff.mp h5).1⟩
theorem vx_isRef {C n d : String} {v : Value} {A : Nat → Prop} {s : State} {args : Array Value} (h : va_Z C n d v A s s.heap) (hv : v.isRef = true) : (Cond.isRef (.static C n d)).before args s = true := by
  obtain ⟨cf, kf, fi, f, a, cell, h1, h2, h3, h4, h5, h6, h7, -⟩ := h
  have he : (Term.static C n d).eval args s none [] s = some v := by
    simp [Term.eval, State.fieldNamed?, h1, h2, h4, h5, h6, h7]
  simp only [Cond.before, Cond.holds, Cond.value, he]
  cases v <;> simp_all [Value.isRef]
theorem vx_isRefq {C n d : String} {A : Nat → Prop} {s : State} {args : Array Value} (h : va_Zq C n d A s s.heap) : (Cond.isRef (.static C n d)).before args s = true := by
  rcases h with h | ⟨t, h⟩
  · exact vx_isRef h rfl
  · exact vx_isRef h rfl
/-- the same frame, seen from here: as if the method were called anew in this heap -/
theorem vx_rebase {T : State} (X : Stand p l e R s m args below meth c T locs cells slots) {R' : Room} (hf : R'.frames ≤ R.frames) (hl : R'.locals ≤ R.locals) (hc : cells + R'.cells ≤ R.cells) (hs : slots + R'.slots ≤ R.slots) :
    Stand p l e R' ((T.setVm s.vm).setFrames (.invoking m args :: below)) m args below meth c T [] 0 0 := by
  have htop : (T.setVm s.vm).topJava?.isSome := X.here.top
  have hF : ((T.setVm s.vm).setFrames (.invoking m args :: below)).frames = .invoking m args :: below := State.frames_setFrames _ (State.cur_lt_of_top htop)
  obtain ⟨g₀, hg0⟩ := Option.isSome_iff_exists.mp htop
  obtain ⟨r, hr⟩ := State.topJava?_eq_some.mp hg0
  have hl9 : e.platform.stackLimits (T.setVm s.vm).me = e.platform.stackLimits s.me := X.limits
  have hb9 : (T.setVm s.vm).me.stackBytes = s.me.stackBytes := X.bytes
  refine ⟨X.admits, X.cas, X.clock, hF, ?_, X.hears, X.method, X.code, X.here, X.tail, X.warmed, ?_, ?_, ?_⟩
  · have h := X.room
    have hU : ((T.setVm s.vm).setFrames (.invoking m args :: below)).localsInUse = s.localsInUse := by
      rw [State.localsInUse_invoking hF (meth := meth) (c := c) X.method X.code, State.localsInUse_invoking X.frames X.method X.code]
    simp only [State.hasRoom, Bool.and_eq_true, decide_eq_true_eq] at h ⊢
    obtain ⟨⟨⟨⟨h1, h2, h3, h4, h5, h6⟩, h7⟩, h8⟩, h9⟩ := h
    rw [X.frames, List.length_cons] at h2 h3
    have q1 := X.heapSize
    have q2 := X.used
    simp only [hF, hU, List.length_cons, State.stackLimits_setFrames, State.stackBytes_setFrames, hl9, hb9]
    refine ⟨⟨⟨⟨by omega, by omega, by omega, by omega, by omega, h6⟩, ?_⟩, ?_⟩, X.book⟩
    · show T.heap.size + R'.cells ≤ e.platform.maxCells
      omega
    · show T.slotsUsed + R'.slots ≤ e.platform.maxSlots
      omega
  · rw [State.stackLimits_setFrames]; rfl
  · rw [State.stackBytes_setFrames]; rfl
  · refine ⟨?_, Nat.le_refl _, Nat.le_refl _, ?_, ?_, fun a c9 h9 => ⟨c9, h9, rfl, rfl, fun _ _ => rfl⟩⟩
    · obtain ⟨t, ht, -⟩ := State.frames_cons hr
      show T.setVm s.vm = { ((T.setVm s.vm).setFrames (.invoking m args :: below)).setFrames (T.setVm s.vm).frames with heap := T.heap, slotsUsed := T.slotsUsed }
      rw [State.setFrames_setFrames, State.setFrames_self ht]
      rfl
    · show T.slotsUsed = T.slotsUsed + ((T.heap.toList.drop T.heap.size).map (·.slots.size)).sum
      rw [List.drop_eq_nil_of_le (Nat.le_of_eq Array.length_toList)]
      rfl
    · show ((T.heap.toList.drop T.heap.size).map (·.slots.size)).sum ≤ 0
      rw [List.drop_eq_nil_of_le (Nat.le_of_eq Array.length_toList)]
      exact Nat.le_refl _
/-- 'throw new E()': new; dup; invokespecial; athrow -/
theorem vx_throw0 {cc : ByteArray} {pc : Nat} (hexec : p.tables.exec = Jvm.exec) (hb : c.code = cc) (hl : l.stackTraces = false) {own cls : String} {names : List String} {ik ic mc ms : Nat} {A : Nat → Prop}
    (hown : s.vm.findClass own = some m.cls) (hcls : Bundle.fit cls = true) (hnames : ∀ n ∈ names, Bundle.fit n = true)
    (hk : (Cond.classLink own ik cls).before args s = true) (hini : (Cond.initialized cls).before args s = true) (hat : ∀ w ∈ vx_at0 own ic cls names, w.before args s = true)
    (hgood : ∀ w ∈ Cond.classLink own ik cls :: Cond.initialized cls :: vx_at0 own ic cls names, vx_ot w = true)
    (hU : vx_Zq Bundle.tN "UNASSIGNED_STACK" Bundle.steD A s s.heap) (hN : vx_Zq Bundle.tN "SUPPRESSED_SENTINEL" Bundle.listD A s s.heap) (hS : va_S A s.heap H locs) (hsize : ls.size = c.maxLocals)
    (d0 : decode cc pc = .ok (.new ik, 3)) (d3 : decode cc (pc + 3) = .ok (.dup, 1)) (d4 : decode cc (pc + 4) = .ok (.invokespecial ic, 3)) (d7 : decode cc (pc + 7) = .ok (.athrow, 1))
    (hout : ∀ x ∈ c.exceptionTable.toList, covers x (pc + 7) = false)
    (hRframes : names.length + 3 < R.frames) (hRlocals : (rest.map fun v => v.category).sum + (13 * (names.length + 1) + 42) ≤ R.locals) (hRcells : cells + 1 ≤ R.cells) (hRslots : slots + 6 ≤ R.slots) (hlocks : meth.locks = false)
    (hx : ∀ t : State, s.vm.Alike t.vm → H.size ≤ t.heap.size → (∀ q : Nat, q < H.size → t.heap[q]? = H[q]?) → XC cls s t)
    (hf : ∀ z ∈ locs, free z.base) (hc : cells + 1 ≤ mc) (hs : slots + 6 ≤ ms) :
    W p l e R s m args below meth c H locs cells slots (vx_MQ below Qc XC args s mc ms free) (F0 m pc ls rest) := by
  intro T hT X
  have htr : e.platform.stackTraces = false := (show e.platform.stackTraces = l.stackTraces by rw [X.admits.platform]).trans hl
  have Y := vx_rebase X (R' := { frames := R.frames, locals := R.locals, cells := 1, slots := 6 }) (Nat.le_refl _) (Nat.le_refl _) hRcells hRslots
  obtain ⟨s', hA⟩ : ∃ z, z = (T.setVm s.vm).setFrames (.invoking m args :: below) := ⟨_, rfl⟩
  rw [← hA] at Y
  have hvm : s'.vm = s.vm := by rw [hA]; rfl
  have hhp : s'.heap = H := by rw [hA]; exact hT
  have hW0 : s.WarmedH s'.vm := by rw [hvm]; exact State.WarmedH.refl s
  have hat' : ∀ w ∈ vx_at0 own ic cls names, w.before args s' = true := fun w hw => vx_ot_at hW0 hvm.symm (hgood w (List.mem_cons_of_mem _ (List.mem_cons_of_mem _ hw))) (hat w hw)
  have hk' : (Cond.classLink own ik cls).before args s' = true := vx_ot_at hW0 hvm.symm (hgood _ List.mem_cons_self) hk
  have hini' : (Cond.initialized cls).before args s' = true := vx_ot_at hW0 hvm.symm (hgood _ (List.mem_cons_of_mem _ List.mem_cons_self)) hini
  have hU' : vx_Zq Bundle.tN "UNASSIGNED_STACK" Bundle.steD A s' s'.heap := by rw [hhp]; exact vx_Zq.moved hW0.alike (hU.kept hS.2.1)
  have hN' : vx_Zq Bundle.tN "SUPPRESSED_SENTINEL" Bundle.listD A s' s'.heap := by rw [hhp]; exact vx_Zq.moved hW0.alike (hN.kept hS.2.1)
  have h : ∀ w ∈ Bundle.ownAtoms0 own ic cls names, w.before args s' = true := vx_own hat' (vx_isRefq hU'.1) (vx_isRefq hN'.1) hU'.2.word hN'.2.word
  have hown' : s'.vm.findClass own = some m.cls := by rw [hvm]; exact hown
  have hins : (Cond.instantiable cls 6).before args s' = true := h _ (by simp [Bundle.ownAtoms0])
  obtain ⟨vm₁, cX, kX, hfX, hkX, -, -, X₁, st1⟩ := Y.newCold hexec (own := own) (C := cls) (index := ik) (n := 6) hown' hk' hins hini'
    (g := F0 m pc ls rest) rfl (by rw [hb]; exact d0) (Nat.le_refl _) (Nat.le_refl _)
  generalize hT1 : (T.setVm vm₁).pushCell { cls := cX, slots := kX.instanceTypes.map defaultValue, vm := .none } = T1 at X₁ st1
  have hcat : (Value.ref T.heap.size).category = 1 := rfl
  have hcellA : T1.heap[T.heap.size]? = some (freshCell cX kX) := by rw [← hT1]; exact State.heap_pushCell_size _ _
  have d3' : decode c.code (pc + 3) = .ok (.dup, 1) := by rw [hb]; exact d3
  obtain ⟨U, hsteps, hrun, hend, hW, hsame, ce, hce, hO⟩ := X₁.ctorThrow0 hexec htr (own := own) (cls := cls) (names := names) (ic := ic) hown' hcls hnames h (fun x hx => nomatch hx) hfX hkX hcellA (by rw [hhp, hT]; exact Nat.le_refl _)
    (g := { method := m, pc := pc + 4, locals := ls, stack := .ref T.heap.size :: .ref T.heap.size :: rest, locked := none }) rfl hsize rfl rfl (rest := rest) rfl
    (by rw [hb]; exact d4) (by rw [hb]; exact d7) hout hRframes (by simp only [List.map_cons, List.sum_cons, hcat]; omega) hlocks
  obtain ⟨f1, f2⟩ := vx_frame hsame
  rw [hhp] at f1 f2
  have hWs : s.WarmedH U.vm := State.WarmedH.trans hW0 hW
  have hcl : s.vm.findClass cls = some ce.cls := by
    have h9 := hO.cls
    rw [hvm] at h9
    exact h9
  have hall : s.sameButNew ({ U with vm := s.vm } : State) locs mc ms := by
    subst hA
    obtain ⟨e1, e2⟩ := hsame
    rw [State.setFrames_setFrames] at e1
    have h2 : (T.setVm s.vm).sameButNew ({ U with vm := s.vm } : State) [] (0 + 1) (0 + 6) := ⟨e1, e2⟩
    have h3 := X.same.trans h2
    rw [List.append_nil] at h3
    exact h3.mono hc hs
  refine ⟨U, ?_, .threw T.heap.size, hrun, hend, Or.inr ⟨T.heap.size, rfl, cls, ce, locs, hx U hWs.alike f1 (fun q hq => f2 q hq (fun z hz => nomatch hz)), hce, hO.vm, hcl, hWs, hall, hf⟩⟩
  refine st1 _ ?_
  show Steps p.tables e below (T1.setTop { method := m, pc := pc + 3, locals := ls, stack := .ref T.heap.size :: rest, locked := none }) _
  jvm_step X₁.here [X₁.here.top, hexec, d3', Value.category]
  exact hsteps
/-- 'throw new E("text")': new; dup; ldc; invokespecial; athrow -/
theorem vx_throwS {cc : ByteArray} {pc : Nat} (hexec : p.tables.exec = Jvm.exec) (hb : c.code = cc) (hl : l.stackTraces = false) {own cls text : String} {names : List String} {ik is ic mc ms sa : Nat} {A : Nat → Prop}
    (hown : s.vm.findClass own = some m.cls) (hcls : Bundle.fit cls = true) (hnames : ∀ n ∈ names, Bundle.fit n = true)
    (hk : (Cond.classLink own ik cls).before args s = true) (hini : (Cond.initialized cls).before args s = true) (hstr : vk_R own is text sa s) (hat : ∀ w ∈ vx_atS own ic cls names, w.before args s = true)
    (hgood : ∀ w ∈ Cond.classLink own ik cls :: Cond.initialized cls :: vx_atS own ic cls names, vx_ot w = true)
    (hU : vx_Zq Bundle.tN "UNASSIGNED_STACK" Bundle.steD A s s.heap) (hN : vx_Zq Bundle.tN "SUPPRESSED_SENTINEL" Bundle.listD A s s.heap) (hS : va_S A s.heap H locs) (hsize : ls.size = c.maxLocals)
    (d0 : decode cc pc = .ok (.new ik, 3)) (d3 : decode cc (pc + 3) = .ok (.dup, 1)) (d4 : decode cc (pc + 4) = .ok (.ldc is, 2)) (d6 : decode cc (pc + 6) = .ok (.invokespecial ic, 3)) (d9 : decode cc (pc + 9) = .ok (.athrow, 1))
    (hout : ∀ x ∈ c.exceptionTable.toList, covers x (pc + 9) = false)
    (hRframes : names.length + 3 < R.frames) (hRlocals : (rest.map fun v => v.category).sum + (13 * (names.length + 1) + 43) ≤ R.locals) (hRcells : cells + 1 ≤ R.cells) (hRslots : slots + 6 ≤ R.slots) (hlocks : meth.locks = false)
    (hx : ∀ t : State, s.vm.Alike t.vm → H.size ≤ t.heap.size → (∀ q : Nat, q < H.size → t.heap[q]? = H[q]?) → XC cls s t)
    (hf : ∀ z ∈ locs, free z.base) (hc : cells + 1 ≤ mc) (hs : slots + 6 ≤ ms) :
    W p l e R s m args below meth c H locs cells slots (vx_MQ below Qc XC args s mc ms free) (F0 m pc ls rest) := by
  intro T hT X
  have htr : e.platform.stackTraces = false := (show e.platform.stackTraces = l.stackTraces by rw [X.admits.platform]).trans hl
  have Y := vx_rebase X (R' := { frames := R.frames, locals := R.locals, cells := 1, slots := 6 }) (Nat.le_refl _) (Nat.le_refl _) hRcells hRslots
  obtain ⟨s', hA⟩ : ∃ z, z = (T.setVm s.vm).setFrames (.invoking m args :: below) := ⟨_, rfl⟩
  rw [← hA] at Y
  have hvm : s'.vm = s.vm := by rw [hA]; rfl
  have hhp : s'.heap = H := by rw [hA]; exact hT
  have hW0 : s.WarmedH s'.vm := by rw [hvm]; exact State.WarmedH.refl s
  have hat' : ∀ w ∈ vx_atS own ic cls names, w.before args s' = true := fun w hw => vx_ot_at hW0 hvm.symm (hgood w (List.mem_cons_of_mem _ (List.mem_cons_of_mem _ hw))) (hat w hw)
  have hk' : (Cond.classLink own ik cls).before args s' = true := vx_ot_at hW0 hvm.symm (hgood _ List.mem_cons_self) hk
  have hini' : (Cond.initialized cls).before args s' = true := vx_ot_at hW0 hvm.symm (hgood _ (List.mem_cons_of_mem _ List.mem_cons_self)) hini
  have hU' : vx_Zq Bundle.tN "UNASSIGNED_STACK" Bundle.steD A s' s'.heap := by rw [hhp]; exact vx_Zq.moved hW0.alike (hU.kept hS.2.1)
  have hN' : vx_Zq Bundle.tN "SUPPRESSED_SENTINEL" Bundle.listD A s' s'.heap := by rw [hhp]; exact vx_Zq.moved hW0.alike (hN.kept hS.2.1)
  have h : ∀ w ∈ Bundle.ownAtoms own ic cls names, w.before args s' = true := vx_own hat' (vx_isRefq hU'.1) (vx_isRefq hN'.1) hU'.2.word hN'.2.word
  have hown' : s'.vm.findClass own = some m.cls := by rw [hvm]; exact hown
  have hins : (Cond.instantiable cls 6).before args s' = true := h _ (by simp [Bundle.ownAtoms])
  obtain ⟨vm₁, cX, kX, hfX, hkX, -, -, X₁, st1⟩ := Y.newCold hexec (own := own) (C := cls) (index := ik) (n := 6) hown' hk' hins hini'
    (g := F0 m pc ls rest) rfl (by rw [hb]; exact d0) (Nat.le_refl _) (Nat.le_refl _)
  generalize hT1 : (T.setVm vm₁).pushCell { cls := cX, slots := kX.instanceTypes.map defaultValue, vm := .none } = T1 at X₁ st1
  have hcat : (Value.ref T.heap.size).category = 1 := rfl
  have hcellA : T1.heap[T.heap.size]? = some (freshCell cX kX) := by rw [← hT1]; exact State.heap_pushCell_size _ _
  have d3' : decode c.code (pc + 3) = .ok (.dup, 1) := by rw [hb]; exact d3
  have d4' : decode c.code (pc + 4) = .ok (.ldc is, 2) := by rw [hb]; exact d4
  have hstr' : vk_R own is text sa s' := vk_R.warm hW0 hstr
  obtain ⟨U, hsteps, hrun, hend, hW, hsame, ce, hce, hO⟩ := X₁.ctorThrowS hexec htr (own := own) (cls := cls) (names := names) (ic := ic) hown' hcls hnames h (fun x hx => nomatch hx) hfX hkX hcellA (by rw [hhp, hT]; exact Nat.le_refl _) (msg := .ref sa) rfl
    (g := { method := m, pc := pc + 6, locals := ls, stack := .ref sa :: .ref T.heap.size :: .ref T.heap.size :: rest, locked := none }) rfl hsize rfl rfl (rest := rest) rfl
    (by rw [hb]; exact d6) (by rw [hb]; exact d9) hout hRframes (by simp only [List.map_cons, List.sum_cons, hcat]; omega) hlocks
  obtain ⟨f1, f2⟩ := vx_frame hsame
  rw [hhp] at f1 f2
  have hWs : s.WarmedH U.vm := State.WarmedH.trans hW0 hW
  have hcl : s.vm.findClass cls = some ce.cls := by
    have h9 := hO.cls
    rw [hvm] at h9
    exact h9
  have hall : s.sameButNew ({ U with vm := s.vm } : State) locs mc ms := by
    subst hA
    obtain ⟨e1, e2⟩ := hsame
    rw [State.setFrames_setFrames] at e1
    have h2 : (T.setVm s.vm).sameButNew ({ U with vm := s.vm } : State) [] (0 + 1) (0 + 6) := ⟨e1, e2⟩
    have h3 := X.same.trans h2
    rw [List.append_nil] at h3
    exact h3.mono hc hs
  refine ⟨U, ?_, .threw T.heap.size, hrun, hend, Or.inr ⟨T.heap.size, rfl, cls, ce, locs, hx U hWs.alike f1 (fun q hq => f2 q hq (fun z hz => nomatch hz)), hce, hO.vm, hcl, hWs, hall, hf⟩⟩
  refine st1 _ ?_
  show Steps p.tables e below (T1.setTop { method := m, pc := pc + 3, locals := ls, stack := .ref T.heap.size :: rest, locked := none }) _
  jvm_step X₁.here [X₁.here.top, hexec, d3', Value.category]
  exact X₁.ldcString hexec (own := own) (text := text) (index := is) (a := sa) hown' hstr'.1 hstr'.2
    (g := { method := m, pc := pc + 4, locals := ls, stack := .ref T.heap.size :: .ref T.heap.size :: rest, locked := none }) rfl d4' _ hsteps
/-- 'throw new E("text")', the text by a wide index -/
theorem vx_throwSW {cc : ByteArray} {pc : Nat} (hexec : p.tables.exec = Jvm.exec) (hb : c.code = cc) (hl : l.stackTraces = false) {own cls text : String} {names : List String} {ik is ic mc ms sa : Nat} {A : Nat → Prop}
    (hown : s.vm.findClass own = some m.cls) (hcls : Bundle.fit cls = true) (hnames : ∀ n ∈ names, Bundle.fit n = true)
    (hk : (Cond.classLink own ik cls).before args s = true) (hini : (Cond.initialized cls).before args s = true) (hstr : vk_R own is text sa s) (hat : ∀ w ∈ vx_atS own ic cls names, w.before args s = true)
    (hgood : ∀ w ∈ Cond.classLink own ik cls :: Cond.initialized cls :: vx_atS own ic cls names, vx_ot w = true)
    (hU : vx_Zq Bundle.tN "UNASSIGNED_STACK" Bundle.steD A s s.heap) (hN : vx_Zq Bundle.tN "SUPPRESSED_SENTINEL" Bundle.listD A s s.heap) (hS : va_S A s.heap H locs) (hsize : ls.size = c.maxLocals)
    (d0 : decode cc pc = .ok (.new ik, 3)) (d3 : decode cc (pc + 3) = .ok (.dup, 1)) (d4 : decode cc (pc + 4) = .ok (.ldc_w is, 3)) (d7 : decode cc (pc + 7) = .ok (.invokespecial ic, 3)) (d10 : decode cc (pc + 10) = .ok (.athrow, 1))
    (hout : ∀ x ∈ c.exceptionTable.toList, covers x (pc + 10) = false)
    (hRframes : names.length + 3 < R.frames) (hRlocals : (rest.map fun v => v.category).sum + (13 * (names.length + 1) + 43) ≤ R.locals) (hRcells : cells + 1 ≤ R.cells) (hRslots : slots + 6 ≤ R.slots) (hlocks : meth.locks = false)
    (hx : ∀ t : State, s.vm.Alike t.vm → H.size ≤ t.heap.size → (∀ q : Nat, q < H.size → t.heap[q]? = H[q]?) → XC cls s t)
    (hf : ∀ z ∈ locs, free z.base) (hc : cells + 1 ≤ mc) (hs : slots + 6 ≤ ms) :
    W p l e R s m args below meth c H locs cells slots (vx_MQ below Qc XC args s mc ms free) (F0 m pc ls rest) := by
  intro T hT X
  have htr : e.platform.stackTraces = false := (show e.platform.stackTraces = l.stackTraces by rw [X.admits.platform]).trans hl
  have Y := vx_rebase X (R' := { frames := R.frames, locals := R.locals, cells := 1, slots := 6 }) (Nat.le_refl _) (Nat.le_refl _) hRcells hRslots
  obtain ⟨s', hA⟩ : ∃ z, z = (T.setVm s.vm).setFrames (.invoking m args :: below) := ⟨_, rfl⟩
  rw [← hA] at Y
  have hvm : s'.vm = s.vm := by rw [hA]; rfl
  have hhp : s'.heap = H := by rw [hA]; exact hT
  have hW0 : s.WarmedH s'.vm := by rw [hvm]; exact State.WarmedH.refl s
  have hat' : ∀ w ∈ vx_atS own ic cls names, w.before args s' = true := fun w hw => vx_ot_at hW0 hvm.symm (hgood w (List.mem_cons_of_mem _ (List.mem_cons_of_mem _ hw))) (hat w hw)
  have hk' : (Cond.classLink own ik cls).before args s' = true := vx_ot_at hW0 hvm.symm (hgood _ List.mem_cons_self) hk
  have hini' : (Cond.initialized cls).before args s' = true := vx_ot_at hW0 hvm.symm (hgood _ (List.mem_cons_of_mem _ List.mem_cons_self)) hini
  have hU' : vx_Zq Bundle.tN "UNASSIGNED_STACK" Bundle.steD A s' s'.heap := by rw [hhp]; exact vx_Zq.moved hW0.alike (hU.kept hS.2.1)
  have hN' : vx_Zq Bundle.tN "SUPPRESSED_SENTINEL" Bundle.listD A s' s'.heap := by rw [hhp]; exact vx_Zq.moved hW0.alike (hN.kept hS.2.1)
  have h : ∀ w ∈ Bundle.ownAtoms own ic cls names, w.before args s' = true := vx_own hat' (vx_isRefq hU'.1) (vx_isRefq hN'.1) hU'.2.word hN'.2.word
  have hown' : s'.vm.findClass own = some m.cls := by rw [hvm]; exact hown
  have hins : (Cond.instantiable cls 6).before args s' = true := h _ (by simp [Bundle.ownAtoms])
  obtain ⟨vm₁, cX, kX, hfX, hkX, -, -, X₁, st1⟩ := Y.newCold hexec (own := own) (C := cls) (index := ik) (n := 6) hown' hk' hins hini'
    (g := F0 m pc ls rest) rfl (by rw [hb]; exact d0) (Nat.le_refl _) (Nat.le_refl _)
  generalize hT1 : (T.setVm vm₁).pushCell { cls := cX, slots := kX.instanceTypes.map defaultValue, vm := .none } = T1 at X₁ st1
  have hcat : (Value.ref T.heap.size).category = 1 := rfl
  have hcellA : T1.heap[T.heap.size]? = some (freshCell cX kX) := by rw [← hT1]; exact State.heap_pushCell_size _ _
  have d3' : decode c.code (pc + 3) = .ok (.dup, 1) := by rw [hb]; exact d3
  have d4' : decode c.code (pc + 4) = .ok (.ldc_w is, 3) := by rw [hb]; exact d4
  have hstr' : vk_R own is text sa s' := vk_R.warm hW0 hstr
  obtain ⟨U, hsteps, hrun, hend, hW, hsame, ce, hce, hO⟩ := X₁.ctorThrowS hexec htr (own := own) (cls := cls) (names := names) (ic := ic) hown' hcls hnames h (fun x hx => nomatch hx) hfX hkX hcellA (by rw [hhp, hT]; exact Nat.le_refl _) (msg := .ref sa) rfl
    (g := { method := m, pc := pc + 7, locals := ls, stack := .ref sa :: .ref T.heap.size :: .ref T.heap.size :: rest, locked := none }) rfl hsize rfl rfl (rest := rest) rfl
    (by rw [hb]; exact d7) (by rw [hb]; exact d10) hout hRframes (by simp only [List.map_cons, List.sum_cons, hcat]; omega) hlocks
  obtain ⟨f1, f2⟩ := vx_frame hsame
  rw [hhp] at f1 f2
  have hWs : s.WarmedH U.vm := State.WarmedH.trans hW0 hW
  have hcl : s.vm.findClass cls = some ce.cls := by
    have h9 := hO.cls
    rw [hvm] at h9
    exact h9
  have hall : s.sameButNew ({ U with vm := s.vm } : State) locs mc ms := by
    subst hA
    obtain ⟨e1, e2⟩ := hsame
    rw [State.setFrames_setFrames] at e1
    have h2 : (T.setVm s.vm).sameButNew ({ U with vm := s.vm } : State) [] (0 + 1) (0 + 6) := ⟨e1, e2⟩
    have h3 := X.same.trans h2
    rw [List.append_nil] at h3
    exact h3.mono hc hs
  refine ⟨U, ?_, .threw T.heap.size, hrun, hend, Or.inr ⟨T.heap.size, rfl, cls, ce, locs, hx U hWs.alike f1 (fun q hq => f2 q hq (fun z hz => nomatch hz)), hce, hO.vm, hcl, hWs, hall, hf⟩⟩
  refine st1 _ ?_
  show Steps p.tables e below (T1.setTop { method := m, pc := pc + 3, locals := ls, stack := .ref T.heap.size :: rest, locked := none }) _
  jvm_step X₁.here [X₁.here.top, hexec, d3', Value.category]
  exact X₁.ldcStringW hexec (own := own) (text := text) (index := is) (a := sa) hown' hstr'.1 hstr'.2
    (g := { method := m, pc := pc + 4, locals := ls, stack := .ref T.heap.size :: .ref T.heap.size :: rest, locked := none }) rfl d4' _ hsteps
end Ends
section Bodies
variable {l : Launch}
theorem vx_ofW {y : MethodName} {ws ws' : List Cond} {rm : Room} {Pc : Array Value → State → Prop} {Qc : Array Value → State → Outcome → State → Prop} {XC : String → State → State → Prop} {mc ms : Nat} {free : Addr → Prop} {cc : ByteArray} {maxL : Nat} {ret : Option FieldType}
    (hy : plainName y.cls = true) (hw : ws = Cond.code y cc maxL ret :: ws')
    (body : ∀ p e s m args below meth c s₁, BodyLoose p l y (headSpec ws rm) cc maxL ret e s m args below meth c s₁ → c.maxLocals = maxL → (∀ x ∈ c.exceptionTable.toList, False) → Pc args s →
      W p l e (headSpec ws rm).room s m args below meth c s.heap [] 0 0 (vx_MQ below Qc XC args s mc ms free) (entryFrame m args maxL)) : vx_Met l y ws rm Pc Qc XC mc ms free := by
  refine MetFree.of_bodyS (code := cc) (maxLocals := maxL) (ret := ret) hy ?_ ?_
  · intro args s m h hn
    obtain ⟨meth, c, h1, h2, h3, h4, h5, h6, -, -⟩ := Cond.code_spec hn (atoms_spec (ws := ws) h _ (by rw [hw]; exact List.mem_cons_self))
    exact ⟨meth, c, h1, h2, h3, h4, h5, h6⟩
  · intro p e s m args below meth c s₁ B hml hP _
    have hh0 : s₁.heap = s.heap := by rw [B.state]; rfl
    have ht : ∀ x ∈ c.exceptionTable.toList, False := by
      obtain ⟨meth9, c9, h1, h2, -, -, -, -, h7, -⟩ := Cond.code_spec B.named (atoms_spec (ws := ws) B.pre _ (by rw [hw]; exact List.mem_cons_self))
      cases Option.some.inj (h1.symm.trans B.method)
      cases Option.some.inj (h2.symm.trans (Stand.of_body B).code)
      intro x hx
      rw [Array.isEmpty_iff.mp h7] at hx
      cases hx
    obtain ⟨t, a1, o, b1, b2, b3⟩ := body p e s m args below meth c s₁ B hml ht hP s₁ hh0 (Stand.of_body B)
    exact ⟨t, o, a1, b1, b2, b3⟩
/-- the table of a body with handlers -/
theorem vx_table {p : Program} {x y : MethodName} {S : Spec} {cc bytes : ByteArray} {maxL maxL' : Nat} {ret ret' : Option FieldType} {e : Env} {s s₁ : State} {m : MethodId} {args : Array Value} {below : List Frame} {meth : Method} {c : Code} {hh : List (Nat × Nat × Nat × Nat)}
    (B : BodyLoose p l y S cc maxL ret e s m args below meth c s₁) (h : (Cond.codeWith y bytes maxL' ret' hh).before args s = true) : c.exceptionTable.toList = tableOf hh := by
  obtain ⟨m9, meth9, c9, hn9, h1, h2, -, -, h6, -⟩ := Cond.codeWith_spec h
  cases Option.some.inj (hn9.symm.trans B.named)
  cases Option.some.inj (h1.symm.trans B.method)
  cases Option.some.inj (h2.symm.trans (Stand.of_body B).code)
  rw [← h6, table_eq]
end Bodies
end VXA
/-! ===== END ===== -/
/-! ===== BEGIN a static call of a method with an exception table ===== -/
section VXS
variable {p : Program} {l : Launch} {e : Env} {R : Room} {s : State} {m : MethodId} {args : Array Value} {below : List Frame} {meth : Method} {c : Code} {T : State} {H : Heap} {locs : List Loc} {cells slots : Nat}
abbrev vx_CSW (R : Room) (s : State) (args : Array Value) (own : String) (index : Nat) (y : MethodName) (bytes : ByteArray) (maxL : Nat) (ret : Option FieldType) (hh : List (Nat × Nat × Nat × Nat)) (ws : List Cond) (rm : Room) (mc ms n : Nat) : Prop :=
  (rm.cells = mc ∧ rm.slots = ms ∧ rm.frames + 1 ≤ R.frames ∧ 8 + (maxL + 11) + rm.locals ≤ R.locals ∧ (∀ w ∈ ws, ∀ (a' : Array Value) (U : State), s.WarmedH U.vm → w.before a' U = true) ∧ Cond.codeWith y bytes maxL ret hh ∈ ws) ∧
  (Cond.codeWith y bytes maxL ret hh).before args s = true ∧ (Cond.initialized y.cls).before args s = true ∧ (y.cls ≠ "java/lang/invoke/MethodHandle" ∧ y.cls ≠ "java/lang/invoke/VarHandle") ∧
  (∀ sig, parseMethodDescriptor y.desc = some sig → n = sig.parameters.length) ∧ (Cond.methodLink own index y).before args s = true ∧ (Cond.static y).before args s = true
theorem vx_cwSW {own : String} {index maxL mc ms : Nat} {y : MethodName} {bytes : ByteArray} {ret : Option FieldType} {hh : List (Nat × Nat × Nat × Nat)} {Ts ws ws' : List Cond} {rm : Room} (n : Nat) (ht : ∀ w ∈ Ts, w.before args s = true) (hT : GoodIn Ts (va_wsS own index y ws)) (hw : ws = Cond.codeWith y bytes maxL ret hh :: ws') (hrc : rm.cells = mc) (hrs : rm.slots = ms)
    (hd : y.cls ≠ "java/lang/invoke/MethodHandle" ∧ y.cls ≠ "java/lang/invoke/VarHandle" ∧ (parseMethodDescriptor y.desc).map (fun d => d.parameters.length) = some n) (hR : rm.frames + 1 ≤ R.frames ∧ 8 + (maxL + 11) + rm.locals ≤ R.locals) :
    vx_CSW R s args own index y bytes maxL ret hh ws rm mc ms n := by
  have ok : ∀ w ∈ va_wsS own index y ws, w.before args s = true := fun w h => ht w (hT w h).1
  have hG : GoodIn Ts ws := fun w h => hT w (by unfold va_wsS; exact List.mem_append_right _ h)
  have hc : Cond.codeWith y bytes maxL ret hh ∈ ws := by rw [hw]; exact List.mem_cons_self
  refine ⟨⟨hrc, hrs, hR.1, hR.2, pay_in ht hG, hc⟩, ht _ (hG _ hc).1, ok _ (by simp [va_wsS]), ⟨hd.1, hd.2.1⟩, fun sig h => ?_, ok _ (by simp [va_wsS]), ok _ (by simp [va_wsS])⟩
  have h2 := hd.2.2
  rw [h] at h2
  exact (Option.some.inj h2).symm
theorem vx_callSW (X : Stand p l e R s m args below meth c T locs cells slots) (hexec : p.tables.exec = Jvm.exec) {own : String} {index : Nat} {y : MethodName} {bytes : ByteArray} {maxL : Nat} {ret : Option FieldType} {hh : List (Nat × Nat × Nat × Nat)}
    (hown : s.vm.findClass own = some m.cls) (hlink : (Cond.methodLink own index y).before args s = true) (hstat : (Cond.static y).before args s = true) (hinit : (Cond.initialized y.cls).before args s = true)
    (hcode : (Cond.codeWith y bytes maxL ret hh).before args s = true) (hy : y.cls ≠ "java/lang/invoke/MethodHandle" ∧ y.cls ≠ "java/lang/invoke/VarHandle")
    {W9 : Nat} {Pre : Pt → Array Value → Prop} {Post : Pt → Array Value → Option Value → Pt → Prop} (hK : Back l R p e below s args y 3 W9 Pre Post)
    {g : JFrame} (hg : g.method = m) (hsize : g.locals.size = c.maxLocals) {argsL rest : List Value} (hlen : ∀ sig, parseMethodDescriptor y.desc = some sig → argsL.length = sig.parameters.length)
    (hstack : g.stack = argsL.reverse ++ rest) (hW : 2 * g.monitorRoom + (rest.map fun v => v.category).sum ≤ W9) (hdg : decode c.code g.pc = .ok (.invokestatic index, 3))
    (hpre : ∀ vm₁, s.WarmedH vm₁ → Pre ⟨T.setVm vm₁, locs, cells, slots⟩ argsL.toArray) :
    ∃ (v : Option Value) (vm₁ : Vm) (B : Pt), s.WarmedH vm₁ ∧ Stand p l e R s m args below meth c B.U B.locs B.cells B.slots ∧ Post ⟨T.setVm vm₁, locs, cells, slots⟩ argsL.toArray v B ∧
      ∀ target, Steps p.tables e below (B.U.setTop { g with pc := g.pc + 3, stack := v.toList ++ rest }) target → Steps p.tables e below (T.setTop g) target := by
  obtain ⟨mk, methM, cM, hnamed, hmethM, -, -, -, -, -, -, hsigM⟩ := Cond.codeWith_spec hcode
  have hstatic : methM.isStatic = true := Cond.static_spec hnamed hmethM hstat
  obtain ⟨kP, hkP, -⟩ := className_of_methodNamed hnamed
  have hinitP : kP.init = .initialized := Cond.initialized_spec (findClass_of_methodNamed hnamed) hkP hinit
  obtain ⟨vm₁, X₁, hstep₁⟩ := X.invokestatic hexec hown hlink hnamed hmethM hstatic hkP hinitP hy (g := g) hg (argsL := argsL) (rest := rest) (hlen _ hsigM) hstack hdg
  obtain ⟨v, B, X', hpost, hsteps⟩ := hK m meth c ⟨T.setVm vm₁, locs, cells, slots⟩ { g with stack := rest } (.invokestatic index) mk argsL.toArray X₁ hg hsize hdg hW (X₁.named hnamed) (hpre vm₁ X₁.warmed)
  exact ⟨v, vm₁, B, X₁.warmed, X', hpost, fun target h => hstep₁ _ fun acts => by rw [doInvoke_state]; exact hsteps.trans h⟩
theorem vx_runSW {y : MethodName} {bytes cc : ByteArray} {maxL nL mc ms n index : Nat} {ret : Option FieldType} {hh : List (Nat × Nat × Nat × Nat)} {ws : List Cond} {rm : Room} {Pc : Array Value → State → Prop} {Qc : Array Value → State → Outcome → State → Prop} {free : Addr → Prop} {Ts : List Cond} {own : String} {As rest : List Value} {g : JFrame}
    (S : CallFix p m c cc nL s args Ts own) (hM : Met l y ws rm Pc Qc mc ms free) (cw : vx_CSW R s args own index y bytes maxL ret hh ws rm mc ms n) (hp : PreS s H Pc As)
    (hg : g.method = m) (hn : As.length = n) (hsize : g.locals.size = nL) (hstack : g.stack = As.reverse ++ rest) (hW : 2 * g.monitorRoom + (rest.map fun v => v.category).sum ≤ 8) (hdg : decode cc g.pc = .ok (.invokestatic index, 3)) (hf : cells + mc ≤ R.cells ∧ slots + ms ≤ R.slots) :
    va_Run p l e R s m args below meth c H locs cells slots mc ms g rest (Qc As.toArray) (free) := by
  obtain ⟨⟨hrc, hrs, hfr, hlo, hws, hcw⟩, hcode, hini, hy, hlen, hl, hstt⟩ := cw
  have hK : Back l R p e below s args y 3 8 (PreOf R mc ms Pc) (PostOf Qc mc ms free) := va_backW (hh := hh) (bytes := bytes) (maxL := maxL) (ret := ret) hM hp.1 hrc hrs hfr hlo hws hcw (fun a' U hW => word_at hW (Or.inl (by first | rfl | simp [Cond.onTables, Cond.keeps, Cond.steady])) hini)
  obtain ⟨hx, hb, hml, ho, -⟩ := S
  intro T hT X
  obtain ⟨v, vm₁, ⟨U', l2, c2, s2⟩, hW₁, X', ⟨g', mk, t, L, e1, e2, hq, h1, hL, h2, h3⟩, st⟩ := vx_callSW X hx (hh := hh) (bytes := bytes) (maxL := maxL) (ret := ret) ho hl hstt hini hcode hy hK hg (hsize.trans hml.symm) (argsL := As) (rest := rest) (fun sig h => hn.trans (hlen sig h)) hstack hW (by rw [hb]; exact hdg)
    (fun vm₁ hW₁ => ⟨hf.1, hf.2, hp.2 (T.setVm vm₁) hT hW₁⟩)
  dsimp only [Pt.U, Pt.locs, Pt.cells, Pt.slots] at X' e1 e2 h1 h2 h3 st
  subst h1; subst h2; subst h3
  exact ⟨v, (T.setVm vm₁).calling g' mk As.toArray, t, U', L, hT, X', hL, e1, e2, hq, st⟩
/-- not caught here, past rows that name other classes: it goes on to the caller -/
theorem vx_outP {p : Program} {l : Launch} {e : Env} {R : Room} {s : State} {m : MethodId} {args : Array Value} {below : List Frame} {meth : Method} {c : Code} {H : Heap} {locs : List Loc} {cells slots : Nat} {free : Addr → Prop} {ls : Array Slot} {rest : List Value} {Qc : Array Value → State → Outcome → State → Prop} {XC : String → State → State → Prop}
    {pc : Nat} {own E : String} {ce : Cell} {q : Addr} {mc ms : Nat} (hown : s.vm.findClass own = some m.cls) (hlocks : meth.locks = false)
    (hpass : ∀ z ∈ c.exceptionTable.toList, covers z pc = false ∨ (z.catchType ≠ 0 ∧ ∃ nm : String, (Cond.classLink own z.catchType nm).before args s = true ∧ va_Nc E nm s)) (hcell : H[q]? = some ce) (hv : ce.vm = .none) (hcl : s.vm.findClass E = some ce.cls)
    (hx : ∀ t : State, t.heap = H → s.vm.Alike t.vm → XC E s t) (hf : ∀ z ∈ locs, free z.base) (hc : cells ≤ mc) (hs : slots ≤ ms) :
    vx_W p l e R s m args below meth c H locs cells slots (vx_MQ below Qc XC args s mc ms free) (F0 m pc ls rest) q := by
  intro T hT X
  have hpl : e.platform.magicAccessors = ({} : Platform).magicAccessors := by rw [X.admits.platform]
  obtain ⟨vm', hW', X', st⟩ := Stand.outThrough X hlocks q (g := F0 m pc ls rest) rfl rfl rfl (cell := ce) (by rw [hT]; exact hcell) (by rw [hv]; rfl)
    (by obtain ⟨k9, h9, -⟩ := Vm.findClass_spec hcl; exact ⟨k9, h9⟩) (fun z hz => by
      rcases hpass z hz with h | ⟨hz0, nm, hl1, hn1⟩
      · exact Or.inl h
      · obtain ⟨c6, hc6, hcl6⟩ := Cond.classLink_spec hown hl1 e.platform hpl
        obtain ⟨a8, b8, h1, h2, h3⟩ := hn1
        cases Option.some.inj (h1.symm.trans hcl)
        cases Option.some.inj (h2.symm.trans hc6)
        exact Or.inr ⟨hz0, _, hcl6, h3⟩)
  obtain ⟨g₀, hfr⟩ := X'.frames_eq
  have hcell9 : ((T.setVm vm').setFrames (.throwing q :: below)).heap[q]? = some ce := by
    show T.heap[q]? = some ce
    rw [hT]; exact hcell
  have hend : Ended ((T.setVm vm').setFrames (.throwing q :: below)) below (.threw q) := State.frames_setFrames _ (State.cur_lt_of_frames hfr)
  refine ⟨(T.setVm vm').setFrames (.throwing q :: below), ?_, .threw q, X'.here.running, hend, Or.inr ⟨q, rfl, E, ce, locs, hx _ hT (X'.ends _).1.alike, hcell9, hv, hcl, (X'.ends _).1, (X'.ends _).2.mono hc hs, hf⟩⟩
  rw [X.pushThrowing_eq]
  exact st
/-- a thing of a world lies in the heap -/
theorem vx_lt {D : va_G} {cl : List vw_C} {ws : va_W} {H1 : Heap} (h : va_P D cl ws H1) {k : Nat} {q : Nat × va_E} (hk : ws[k]? = some q) : q.1 < H1.size := (h k q hk).lt
end VXS
/-! ===== END ===== -/
/-! ===== BEGIN methods with a table of their own: called by a name, returning or throwing ===== -/
section VXH
/-! vx_backW, vx_callVX, vx_callSX, vx_callVW, vx_runVW, vx_runVX, vx_runSX, vx_ofWH follow the same proofs as their sisters above (Free/Laws.lean, Shelf42/LK1.lean); vx_outP calls Shelf42/NT130.lean (outThrough). -/
section
variable {l : Launch} {R : Room} {p : Program} {e : Env} {below : List Frame} {s : State} {sargs : Array Value} {y : MethodName} {len W9 : Nat}
theorem vx_backW {ws : List Cond} {rm : Room} {Pc : Array Value → State → Prop} {Qc : Array Value → State → Outcome → State → Prop} {XC : String → State → State → Prop} {mc ms : Nat} {free : Addr → Prop} {bytes : ByteArray} {maxL : Nat} {ret : Option FieldType} {hh : List (Nat × Nat × Nat × Nat)}
    (hM : vx_Met l y ws rm Pc Qc XC mc ms free) (hblind : FrameBlind Pc) (hrc : rm.cells = mc) (hrs : rm.slots = ms)
    (hframes : rm.frames + 1 ≤ R.frames) (hlocals : W9 + (maxL + 11) + rm.locals ≤ R.locals)
    (hws : ∀ w ∈ ws, ∀ a' U, s.WarmedH U.vm → w.before a' U = true) (hcode : Cond.codeWith y bytes maxL ret hh ∈ ws) (hinit : ∀ a' U, s.WarmedH U.vm → (Cond.initialized y.cls).before a' U = true) :
    vx_Back l R p e below s sargs y len W9 (PreOf R mc ms Pc) (PostOf Qc mc ms free) (vx_Post XC mc ms free) := by
  intro m meth c A g ig mk a X hg hsize hdg hW hn hp
  have h1 : (headSpec ws rm).pre.before a A.U = true := atoms_intro fun w hw => hws w hw _ _ X.warmed
  have h2 : (Cond.codeWith y bytes maxL ret hh).before a A.U = true := hws _ hcode _ _ X.warmed
  have h3 : (Cond.initialized y.cls).before a A.U = true := hinit _ _ X.warmed
  have h4 : A.cells + (headSpec ws rm).room.cells ≤ R.cells := by rw [show (headSpec ws rm).room.cells = mc from hrc]; exact hp.1
  have h5 : A.slots + (headSpec ws rm).room.slots ≤ R.slots := by rw [show (headSpec ws rm).room.slots = ms from hrs]; exact hp.2.1
  have hPc : Pc a (A.U.calling g mk a) := hblind _ _ _ _ hp.2.2
  obtain ⟨U, Ls, c0, s0⟩ := A
  dsimp only [Pt.U, Pt.locs, Pt.cells, Pt.slots] at h1 h2 h3 h4 h5 X hn hPc ⊢
  obtain ⟨m9, methY, cY, hn9, hmY, hcY, -, hlY, -⟩ := Cond.codeWith_spec h2
  cases Option.some.inj (hn9.symm.trans hn)
  obtain ⟨kY, hkY, -⟩ := className_of_methodNamed hn
  have hinitY : kY.init = .initialized := Cond.initialized_spec (findClass_of_methodNamed hn) hkY h3
  have h : At U g.method c below := by rw [hg]; exact X.here
  have hlocals9 : W9 + (maxL + 11) + (headSpec ws rm).room.locals ≤ R.locals := hlocals
  have happ : (headSpec ws rm).appliesLoose y e.platform (U.calling g mk a) = true :=
    Spec.appliesLoose_calling (g := g) h hdg hn hkY hinitY
      (X.room_calling (g := g) (R' := (headSpec ws rm).room) hsize hmY hcY hframes (by rw [hlY]; omega) h4 h5) h1
  obtain ⟨mid, hmid⟩ := h.above
  have hfr : (U.setTop g).frames = (.java g :: mid) ++ below := by rw [State.frames_setTop' g h.top, hmid]; rfl
  obtain ⟨o, s₂, hsteps, -, hend, hq⟩ := Steps.callFree hM p X.admits X.cas X.clock (acts := []) hfr happ hPc trivial
  have hq' : vx_Q Qc XC mc ms free a (U.calling g mk a) o s₂ := hq
  rw [State.frames_setTop' g h.top] at hend
  obtain ⟨g₀, hg0⟩ := Option.isSome_iff_exists.mp h.top
  obtain ⟨r, hr⟩ := State.topJava?_eq_some.mp hg0
  have hr' : (({ U with heap := s₂.heap, slotsUsed := s₂.slotsUsed } : State).setVm s₂.vm).frames = .java g₀ :: r := hr
  rcases hq' with ⟨hqc, L, hfe, hL⟩ | ⟨q, rfl, E, ce, L, hx, hce, hcv, hcl, hW₂, hsm, hL⟩
  · obtain ⟨⟨v, rfl⟩, hW₂, e2, q2, q3, q4, q5, q6⟩ := id hfe
    have e3 : s₂ = ({ (U.calling g mk a).setFrames s₂.frames with heap := s₂.heap, slotsUsed := s₂.slotsUsed } : State).setVm s₂.vm := by
      have : s₂ = ({ s₂ with vm := (U.calling g mk a).vm } : State).setVm s₂.vm := rfl
      rw [e2] at this
      exact this
    obtain ⟨c₂, i₂, len₂, hc₂, hd₂, hf₂⟩ := hend
    have hW' : U.WarmedH s₂.vm := hW₂
    have hcc : c₂ = c := by
      have h1 : s₂.code? g.method = U.code? g.method := by
        rw [State.code?_eq, State.code?_eq, hW'.alike.method?]
      exact Option.some.inj (hc₂.symm.trans (h1.trans h.code))
    subst hcc
    have hlen : len₂ = len := by rw [hdg] at hd₂; cases hd₂; rfl
    subst hlen
    have hs₂ : s₂ = (({ U with heap := s₂.heap, slotsUsed := s₂.slotsUsed } : State).setVm s₂.vm).setTop { g with pc := g.pc + len₂, stack := v.toList ++ g.stack } := by
      refine e3.trans ?_
      rw [hf₂, State.calling_eq h.top, State.setFrames_setFrames, State.setTop_of_frames _ hr', hr]
      rfl
    have hsame : U.sameButNew ({ U with heap := s₂.heap, slotsUsed := s₂.slotsUsed } : State) L mc ms := by
      refine ⟨?_, q2, q3, q4, q5, q6⟩
      obtain ⟨t, ht, -⟩ := State.frames_cons hr
      show ({ U with heap := s₂.heap, slotsUsed := s₂.slotsUsed } : State) = { U.setFrames U.frames with heap := s₂.heap, slotsUsed := s₂.slotsUsed }
      rw [State.setFrames_self ht]
    subst hg
    refine Or.inl ⟨v, ⟨(({ U with heap := s₂.heap, slotsUsed := s₂.slotsUsed } : State).setVm s₂.vm), Ls ++ L, c0 + mc, s0 + ms⟩,
      ⟨X.admits, X.cas, X.clock, X.frames, X.room, X.hears, X.method, X.code, (X.here.setHeapUsed s₂.heap s₂.slotsUsed).setVm hW'.alike, X.tail, State.WarmedH.trans X.warmed hW', X.limits, X.bytes, X.same.trans (hsame.setVm s.vm)⟩,
      ⟨g, mk, s₂, L, rfl, rfl, hqc, rfl, hL, rfl, rfl⟩, ?_⟩
    show Steps p.tables e below _ ((({ U with heap := s₂.heap, slotsUsed := s₂.slotsUsed } : State).setVm s₂.vm).setTop { g with pc := g.pc + len₂, stack := v.toList ++ g.stack })
    rw [← hs₂]
    exact hsteps
  · obtain ⟨e2, q2, q3, q4, q5, q6⟩ := id hsm
    have e3 : s₂ = ({ (U.calling g mk a).setFrames s₂.frames with heap := s₂.heap, slotsUsed := s₂.slotsUsed } : State).setVm s₂.vm := by
      have : s₂ = ({ s₂ with vm := (U.calling g mk a).vm } : State).setVm s₂.vm := rfl
      rw [e2] at this
      exact this
    have hf₂ : s₂.frames = .throwing q :: .java g :: U.frames.tail := hend
    have hW' : U.WarmedH s₂.vm := hW₂
    have hs₂ : s₂ = ((({ U with heap := s₂.heap, slotsUsed := s₂.slotsUsed } : State).setVm s₂.vm).setTop g).pushFrame (.throwing q) := by
      refine e3.trans ?_
      rw [hf₂, State.calling_eq h.top, State.setFrames_setFrames, State.pushFrame, State.frames_setTop _ hr', State.setTop_of_frames _ hr', State.setFrames_setFrames, hr]
      rfl
    have hsame : U.sameButNew ({ U with heap := s₂.heap, slotsUsed := s₂.slotsUsed } : State) L mc ms := by
      refine ⟨?_, q2, q3, q4, q5, q6⟩
      obtain ⟨t, ht, -⟩ := State.frames_cons hr
      show ({ U with heap := s₂.heap, slotsUsed := s₂.slotsUsed } : State) = { U.setFrames U.frames with heap := s₂.heap, slotsUsed := s₂.slotsUsed }
      rw [State.setFrames_self ht]
    subst hg
    refine Or.inr ⟨q, ⟨(({ U with heap := s₂.heap, slotsUsed := s₂.slotsUsed } : State).setVm s₂.vm), Ls ++ L, c0 + mc, s0 + ms⟩,
      ⟨X.admits, X.cas, X.clock, X.frames, X.room, X.hears, X.method, X.code, (X.here.setHeapUsed s₂.heap s₂.slotsUsed).setVm hW'.alike, X.tail, State.WarmedH.trans X.warmed hW', X.limits, X.bytes, X.same.trans (hsame.setVm s.vm)⟩,
      ⟨g, mk, s₂, L, E, ce, rfl, rfl, hx, hce, hcv, hcl, rfl, hL, rfl, rfl⟩, ?_⟩
    show Steps p.tables e below _ (((({ U with heap := s₂.heap, slotsUsed := s₂.slotsUsed } : State).setVm s₂.vm).setTop g).pushFrame (.throwing q))
    rw [← hs₂]
    exact hsteps
end
variable {p : Program} {l : Launch} {e : Env} {R : Room} {s : State} {m : MethodId} {args : Array Value} {below : List Frame} {meth : Method} {c : Code} {T : State} {H : Heap} {locs : List Loc} {cells slots : Nat}
theorem vx_callVX (X : Stand p l e R s m args below meth c T locs cells slots) (hexec : p.tables.exec = Jvm.exec) {own C : String} {index : Nat} {y : MethodName} {bytes : ByteArray} {maxL : Nat} {ret : Option FieldType} {hh : List (Nat × Nat × Nat × Nat)}
    (hown : s.vm.findClass own = some m.cls) (hlink : (Cond.methodLink own index y).before args s = true) (hinst : (Cond.instanceMethod y).before args s = true) (hsel : (Cond.selects C y y).before args s = true)
    (hcode : (Cond.codeWith y bytes maxL ret hh).before args s = true) (hy : y.cls ≠ "java/lang/invoke/MethodHandle" ∧ y.cls ≠ "java/lang/invoke/VarHandle")
    {W9 : Nat} {Pre : Pt → Array Value → Prop} {Post : Pt → Array Value → Option Value → Pt → Prop} {PostX : Pt → Array Value → Addr → Pt → Prop} (hK : vx_Back l R p e below s args y 3 W9 Pre Post PostX)
    {b : Addr} {cellB : Cell} (hcell : T.heap[b]? = some cellB) (hobj : cellB.vm.isStatics = false) (hcls : s.vm.findClass C = some cellB.cls)
    {g : JFrame} (hg : g.method = m) (hsize : g.locals.size = c.maxLocals) {argsL rest : List Value} (hlen : ∀ sig, parseMethodDescriptor y.desc = some sig → argsL.length = sig.parameters.length)
    (hstack : g.stack = argsL.reverse ++ .ref b :: rest) (hW : 2 * g.monitorRoom + (rest.map fun v => v.category).sum ≤ W9) (hdg : decode c.code g.pc = .ok (.invokevirtual index, 3))
    (hpre : ∀ vm₁, s.WarmedH vm₁ → Pre ⟨T.setVm vm₁, locs, cells, slots⟩ (Value.ref b :: argsL).toArray) :
    (∃ (v : Option Value) (vm₁ : Vm) (B : Pt), s.WarmedH vm₁ ∧ Stand p l e R s m args below meth c B.U B.locs B.cells B.slots ∧ Post ⟨T.setVm vm₁, locs, cells, slots⟩ (Value.ref b :: argsL).toArray v B ∧
      ∀ target, Steps p.tables e below (B.U.setTop { g with pc := g.pc + 3, stack := v.toList ++ rest }) target → Steps p.tables e below (T.setTop g) target) ∨
    (∃ (q : Addr) (vm₁ : Vm) (B : Pt), s.WarmedH vm₁ ∧ Stand p l e R s m args below meth c B.U B.locs B.cells B.slots ∧ PostX ⟨T.setVm vm₁, locs, cells, slots⟩ (Value.ref b :: argsL).toArray q B ∧
      Steps p.tables e below (T.setTop g) ((B.U.setTop { g with stack := rest }).pushFrame (.throwing q))) := by
  obtain ⟨mk, methM, hnamed, hmethM, hstM, habM⟩ := Cond.instanceMethod_spec hinst
  obtain ⟨m8, methM', cM, hn8, hmethM', -, -, -, -, -, -, hsigM⟩ := Cond.codeWith_spec hcode
  cases Option.some.inj (hn8.symm.trans hnamed)
  cases hmethM.symm.trans hmethM'
  obtain ⟨c2, r2, m2, q1, q2, q3, q4, kP, hkP, hkPi⟩ := Cond.selects_spec hsel
  cases hcls.symm.trans q1
  cases (State.methodFound?_of_named hnamed hy).symm.trans q2
  cases hnamed.symm.trans q3
  have hselP : selectMethod e.platform s.vm cellB.cls mk = .method mk := by rw [Launch.admits_selectMethod X.admits]; exact q4
  obtain ⟨vm₁, X₁, hstep₁⟩ := X.invokevirtual hexec hown hlink hnamed hmethM hstM hkP hkPi hy (a := b) (cell := cellB) hcell
    (fun z h => by rw [h] at hobj; cases hobj) hselP hmethM habM hkP hkPi (g := g) hg (argsL := argsL) (rest := rest) (hlen _ hsigM) hstack hdg
  rcases hK m meth c ⟨T.setVm vm₁, locs, cells, slots⟩ { g with stack := rest } (.invokevirtual index) mk (Value.ref b :: argsL).toArray X₁ hg hsize hdg hW (X₁.named hnamed) (hpre vm₁ X₁.warmed) with ⟨v, B, X', hpost, hsteps⟩ | ⟨q, B, X', hpost, hsteps⟩
  · exact Or.inl ⟨v, vm₁, B, X₁.warmed, X', hpost, fun target h => hstep₁ _ fun acts => by rw [doInvoke_state]; exact hsteps.trans h⟩
  · exact Or.inr ⟨q, vm₁, B, X₁.warmed, X', hpost, hstep₁ _ fun acts => by rw [doInvoke_state]; exact hsteps⟩
theorem vx_callSX (X : Stand p l e R s m args below meth c T locs cells slots) (hexec : p.tables.exec = Jvm.exec) {own : String} {index : Nat} {y : MethodName} {bytes : ByteArray} {maxL : Nat} {ret : Option FieldType} {hh : List (Nat × Nat × Nat × Nat)}
    (hown : s.vm.findClass own = some m.cls) (hlink : (Cond.methodLink own index y).before args s = true) (hstat : (Cond.static y).before args s = true) (hinit : (Cond.initialized y.cls).before args s = true)
    (hcode : (Cond.codeWith y bytes maxL ret hh).before args s = true) (hy : y.cls ≠ "java/lang/invoke/MethodHandle" ∧ y.cls ≠ "java/lang/invoke/VarHandle")
    {W9 : Nat} {Pre : Pt → Array Value → Prop} {Post : Pt → Array Value → Option Value → Pt → Prop} {PostX : Pt → Array Value → Addr → Pt → Prop} (hK : vx_Back l R p e below s args y 3 W9 Pre Post PostX)
    {g : JFrame} (hg : g.method = m) (hsize : g.locals.size = c.maxLocals) {argsL rest : List Value} (hlen : ∀ sig, parseMethodDescriptor y.desc = some sig → argsL.length = sig.parameters.length)
    (hstack : g.stack = argsL.reverse ++ rest) (hW : 2 * g.monitorRoom + (rest.map fun v => v.category).sum ≤ W9) (hdg : decode c.code g.pc = .ok (.invokestatic index, 3))
    (hpre : ∀ vm₁, s.WarmedH vm₁ → Pre ⟨T.setVm vm₁, locs, cells, slots⟩ argsL.toArray) :
    (∃ (v : Option Value) (vm₁ : Vm) (B : Pt), s.WarmedH vm₁ ∧ Stand p l e R s m args below meth c B.U B.locs B.cells B.slots ∧ Post ⟨T.setVm vm₁, locs, cells, slots⟩ argsL.toArray v B ∧
      ∀ target, Steps p.tables e below (B.U.setTop { g with pc := g.pc + 3, stack := v.toList ++ rest }) target → Steps p.tables e below (T.setTop g) target) ∨
    (∃ (q : Addr) (vm₁ : Vm) (B : Pt), s.WarmedH vm₁ ∧ Stand p l e R s m args below meth c B.U B.locs B.cells B.slots ∧ PostX ⟨T.setVm vm₁, locs, cells, slots⟩ argsL.toArray q B ∧
      Steps p.tables e below (T.setTop g) ((B.U.setTop { g with stack := rest }).pushFrame (.throwing q))) := by
  obtain ⟨mk, methM, cM, hnamed, hmethM, -, -, -, -, -, -, hsigM⟩ := Cond.codeWith_spec hcode
  have hstatic : methM.isStatic = true := Cond.static_spec hnamed hmethM hstat
  obtain ⟨kP, hkP, -⟩ := className_of_methodNamed hnamed
  have hinitP : kP.init = .initialized := Cond.initialized_spec (findClass_of_methodNamed hnamed) hkP hinit
  obtain ⟨vm₁, X₁, hstep₁⟩ := X.invokestatic hexec hown hlink hnamed hmethM hstatic hkP hinitP hy (g := g) hg (argsL := argsL) (rest := rest) (hlen _ hsigM) hstack hdg
  rcases hK m meth c ⟨T.setVm vm₁, locs, cells, slots⟩ { g with stack := rest } (.invokestatic index) mk argsL.toArray X₁ hg hsize hdg hW (X₁.named hnamed) (hpre vm₁ X₁.warmed) with ⟨v, B, X', hpost, hsteps⟩ | ⟨q, B, X', hpost, hsteps⟩
  · exact Or.inl ⟨v, vm₁, B, X₁.warmed, X', hpost, fun target h => hstep₁ _ fun acts => by rw [doInvoke_state]; exact hsteps.trans h⟩
  · exact Or.inr ⟨q, vm₁, B, X₁.warmed, X', hpost, hstep₁ _ fun acts => by rw [doInvoke_state]; exact hsteps⟩
theorem vx_callVW (X : Stand p l e R s m args below meth c T locs cells slots) (hexec : p.tables.exec = Jvm.exec) {own C : String} {index : Nat} {y : MethodName} {bytes : ByteArray} {maxL : Nat} {ret : Option FieldType} {hh : List (Nat × Nat × Nat × Nat)}
    (hown : s.vm.findClass own = some m.cls) (hlink : (Cond.methodLink own index y).before args s = true) (hinst : (Cond.instanceMethod y).before args s = true) (hsel : (Cond.selects C y y).before args s = true)
    (hcode : (Cond.codeWith y bytes maxL ret hh).before args s = true) (hy : y.cls ≠ "java/lang/invoke/MethodHandle" ∧ y.cls ≠ "java/lang/invoke/VarHandle")
    {W9 : Nat} {Pre : Pt → Array Value → Prop} {Post : Pt → Array Value → Option Value → Pt → Prop} (hK : Back l R p e below s args y 3 W9 Pre Post)
    {b : Addr} {cellB : Cell} (hcell : T.heap[b]? = some cellB) (hobj : cellB.vm.isStatics = false) (hcls : s.vm.findClass C = some cellB.cls)
    {g : JFrame} (hg : g.method = m) (hsize : g.locals.size = c.maxLocals) {argsL rest : List Value} (hlen : ∀ sig, parseMethodDescriptor y.desc = some sig → argsL.length = sig.parameters.length)
    (hstack : g.stack = argsL.reverse ++ .ref b :: rest) (hW : 2 * g.monitorRoom + (rest.map fun v => v.category).sum ≤ W9) (hdg : decode c.code g.pc = .ok (.invokevirtual index, 3))
    (hpre : ∀ vm₁, s.WarmedH vm₁ → Pre ⟨T.setVm vm₁, locs, cells, slots⟩ (Value.ref b :: argsL).toArray) :
    ∃ (v : Option Value) (vm₁ : Vm) (B : Pt), s.WarmedH vm₁ ∧ Stand p l e R s m args below meth c B.U B.locs B.cells B.slots ∧ Post ⟨T.setVm vm₁, locs, cells, slots⟩ (Value.ref b :: argsL).toArray v B ∧
      ∀ target, Steps p.tables e below (B.U.setTop { g with pc := g.pc + 3, stack := v.toList ++ rest }) target → Steps p.tables e below (T.setTop g) target := by
  obtain ⟨mk, methM, hnamed, hmethM, hstM, habM⟩ := Cond.instanceMethod_spec hinst
  obtain ⟨m8, methM', cM, hn8, hmethM', -, -, -, -, -, -, hsigM⟩ := Cond.codeWith_spec hcode
  cases Option.some.inj (hn8.symm.trans hnamed)
  cases hmethM.symm.trans hmethM'
  obtain ⟨c2, r2, m2, q1, q2, q3, q4, kP, hkP, hkPi⟩ := Cond.selects_spec hsel
  cases hcls.symm.trans q1
  cases (State.methodFound?_of_named hnamed hy).symm.trans q2
  cases hnamed.symm.trans q3
  have hselP : selectMethod e.platform s.vm cellB.cls mk = .method mk := by rw [Launch.admits_selectMethod X.admits]; exact q4
  obtain ⟨vm₁, X₁, hstep₁⟩ := X.invokevirtual hexec hown hlink hnamed hmethM hstM hkP hkPi hy (a := b) (cell := cellB) hcell
    (fun z h => by rw [h] at hobj; cases hobj) hselP hmethM habM hkP hkPi (g := g) hg (argsL := argsL) (rest := rest) (hlen _ hsigM) hstack hdg
  obtain ⟨v, B, X', hpost, hsteps⟩ := hK m meth c ⟨T.setVm vm₁, locs, cells, slots⟩ { g with stack := rest } (.invokevirtual index) mk (Value.ref b :: argsL).toArray X₁ hg hsize hdg hW (X₁.named hnamed) (hpre vm₁ X₁.warmed)
  exact ⟨v, vm₁, B, X₁.warmed, X', hpost, fun target h => hstep₁ _ fun acts => by rw [doInvoke_state]; exact hsteps.trans h⟩
abbrev vx_CVW (R : Room) (s : State) (args : Array Value) (own C : String) (index : Nat) (y : MethodName) (bytes : ByteArray) (maxL : Nat) (ret : Option FieldType) (hh : List (Nat × Nat × Nat × Nat)) (ws : List Cond) (rm : Room) (mc ms n : Nat) : Prop :=
  (rm.cells = mc ∧ rm.slots = ms ∧ rm.frames + 1 ≤ R.frames ∧ 8 + (maxL + 11) + rm.locals ≤ R.locals ∧ (∀ w ∈ ws, ∀ (a' : Array Value) (U : State), s.WarmedH U.vm → w.before a' U = true) ∧ Cond.codeWith y bytes maxL ret hh ∈ ws) ∧
  (Cond.codeWith y bytes maxL ret hh).before args s = true ∧ (Cond.initialized y.cls).before args s = true ∧ (y.cls ≠ "java/lang/invoke/MethodHandle" ∧ y.cls ≠ "java/lang/invoke/VarHandle") ∧
  (∀ sig, parseMethodDescriptor y.desc = some sig → n = sig.parameters.length) ∧ (Cond.methodLink own index y).before args s = true ∧ (Cond.instanceMethod y).before args s = true ∧ (Cond.selects C y y).before args s = true
theorem vx_cwVW {own C : String} {index maxL mc ms : Nat} {y : MethodName} {bytes : ByteArray} {ret : Option FieldType} {hh : List (Nat × Nat × Nat × Nat)} {Ts ws ws' : List Cond} {rm : Room} (n : Nat) (ht : ∀ w ∈ Ts, w.before args s = true) (hT : GoodIn Ts (wsV own index C y ws)) (hw : ws = Cond.codeWith y bytes maxL ret hh :: ws') (hrc : rm.cells = mc) (hrs : rm.slots = ms)
    (hd : y.cls = C ∧ y.cls ≠ "java/lang/invoke/MethodHandle" ∧ y.cls ≠ "java/lang/invoke/VarHandle" ∧ (parseMethodDescriptor y.desc).map (fun d => d.parameters.length) = some n) (hR : rm.frames + 1 ≤ R.frames ∧ 8 + (maxL + 11) + rm.locals ≤ R.locals) :
    vx_CVW R s args own C index y bytes maxL ret hh ws rm mc ms n := by
  obtain ⟨hC, hd⟩ := hd
  subst hC
  have ok : ∀ w ∈ wsV own index y.cls y ws, w.before args s = true := fun w h => ht w (hT w h).1
  have hG : GoodIn Ts ws := fun w h => hT w (by unfold wsV; exact List.mem_append_right _ h)
  have hc : Cond.codeWith y bytes maxL ret hh ∈ ws := by rw [hw]; exact List.mem_cons_self
  refine ⟨⟨hrc, hrs, hR.1, hR.2, pay_in ht hG, hc⟩, ht _ (hG _ hc).1, ok _ (by simp [wsV]), ⟨hd.1, hd.2.1⟩, fun sig h => ?_, ok _ (by simp [wsV]), ok _ (by simp [wsV]), ok _ (by simp [wsV])⟩
  have h2 := hd.2.2
  rw [h] at h2
  exact (Option.some.inj h2).symm
theorem vx_runVW {y : MethodName} {bytes cc : ByteArray} {maxL nL mc ms n index : Nat} {ret : Option FieldType} {hh : List (Nat × Nat × Nat × Nat)} {ws : List Cond} {rm : Room} {Pc : Array Value → State → Prop} {Qc : Array Value → State → Outcome → State → Prop} {free : Addr → Prop} {Ts : List Cond} {own C : String} {b : Addr} {As rest : List Value} {g : JFrame}
    (S : CallFix p m c cc nL s args Ts own) (hM : Met l y ws rm Pc Qc mc ms free) (cw : vx_CVW R s args own C index y bytes maxL ret hh ws rm mc ms n) (hp : PreV s H C b Pc As)
    (hg : g.method = m) (hn : As.length = n) (hsize : g.locals.size = nL) (hstack : g.stack = As.reverse ++ .ref b :: rest) (hW : 2 * g.monitorRoom + (rest.map fun v => v.category).sum ≤ 8) (hdg : decode cc g.pc = .ok (.invokevirtual index, 3)) (hf : cells + mc ≤ R.cells ∧ slots + ms ≤ R.slots) :
    va_Run p l e R s m args below meth c H locs cells slots mc ms g rest (Qc (Value.ref b :: As).toArray) free := by
  obtain ⟨⟨hrc, hrs, hfr, hlo, hws, hcw⟩, hcode, hini, hy, hlen, hl, hin, hse⟩ := cw
  have hK : Back l R p e below s args y 3 8 (PreOf R mc ms Pc) (PostOf Qc mc ms free) := va_backW (hh := hh) (bytes := bytes) (maxL := maxL) (ret := ret) hM hp.1 hrc hrs hfr hlo hws hcw (fun a' U hW => word_at hW (Or.inl (by first | rfl | simp [Cond.onTables, Cond.keeps, Cond.steady])) hini)
  obtain ⟨hx, hb, hml, ho, -⟩ := S
  obtain ⟨-, ⟨cellB, hcB, hoB, hclB⟩, hPc⟩ := hp
  intro T hT X
  obtain ⟨v, vm₁, ⟨U', l2, c2, s2⟩, hW₁, X', ⟨g', mk, t, L, e1, e2, hq, h1, hL, h2, h3⟩, st⟩ := vx_callVW X hx (C := C) (hh := hh) (bytes := bytes) (maxL := maxL) (ret := ret) ho hl hin hse hcode hy hK (by rw [hT]; exact hcB) hoB hclB hg (hsize.trans hml.symm) (argsL := As) (rest := rest) (fun sig h => hn.trans (hlen sig h)) hstack hW (by rw [hb]; exact hdg)
    (fun vm₁ hW₁ => ⟨hf.1, hf.2, hPc (T.setVm vm₁) hT hW₁⟩)
  dsimp only [Pt.U, Pt.locs, Pt.cells, Pt.slots] at X' e1 e2 h1 h2 h3 st
  subst h1; subst h2; subst h3
  exact ⟨v, (T.setVm vm₁).calling g' mk (Value.ref b :: As).toArray, t, U', L, hT, X', hL, e1, e2, hq, st⟩
section
variable {y : MethodName} {bytes cc : ByteArray} {maxL nL mc ms n index : Nat} {ret : Option FieldType} {ws : List Cond} {rm : Room} {Pc : Array Value → State → Prop} {Qc : Array Value → State → Outcome → State → Prop} {XC : String → State → State → Prop} {free : Addr → Prop} {Ts : List Cond} {own C : String} {b : Addr} {As rest : List Value} {g : JFrame}
theorem vx_runVX {hh : List (Nat × Nat × Nat × Nat)} (S : CallFix p m c cc nL s args Ts own) (hM : vx_Met l y ws rm Pc Qc XC mc ms free) (cw : vx_CVW R s args own C index y bytes maxL ret hh ws rm mc ms n) (hp : PreV s H C b Pc As)
    (hg : g.method = m) (hn : As.length = n) (hsize : g.locals.size = nL) (hstack : g.stack = As.reverse ++ .ref b :: rest) (hW : 2 * g.monitorRoom + (rest.map fun v => v.category).sum ≤ 8) (hdg : decode cc g.pc = .ok (.invokevirtual index, 3)) (hf : cells + mc ≤ R.cells ∧ slots + ms ≤ R.slots) :
    vx_Run p l e R s m args below meth c H locs cells slots mc ms g rest (Qc (Value.ref b :: As).toArray) XC free := by
  obtain ⟨⟨hrc, hrs, hfr, hlo, hws, hcw⟩, hcode, hini, hy, hlen, hl, hin, hse⟩ := cw
  have hK : vx_Back l R p e below s args y 3 8 (PreOf R mc ms Pc) (PostOf Qc mc ms free) (vx_Post XC mc ms free) := vx_backW (hh := hh) (bytes := bytes) (maxL := maxL) (ret := ret) hM hp.1 hrc hrs hfr hlo hws hcw (fun a' U hW => word_at hW (Or.inl (by first | rfl | simp [Cond.onTables, Cond.keeps, Cond.steady])) hini)
  obtain ⟨hx, hb, hml, ho, -⟩ := S
  obtain ⟨-, ⟨cellB, hcB, hoB, hclB⟩, hPc⟩ := hp
  intro T hT X
  rcases vx_callVX X hx (C := C) (hh := hh) (bytes := bytes) (maxL := maxL) (ret := ret) ho hl hin hse hcode hy hK (by rw [hT]; exact hcB) hoB hclB hg (hsize.trans hml.symm) (argsL := As) (rest := rest) (fun sig h => hn.trans (hlen sig h)) hstack hW (by rw [hb]; exact hdg)
    (fun vm₁ hW₁ => ⟨hf.1, hf.2, hPc (T.setVm vm₁) hT hW₁⟩) with ⟨v, vm₁, ⟨U', l2, c2, s2⟩, hW₁, X', ⟨g', mk, t, L, e1, e2, hq, h1, hL, h2, h3⟩, st⟩ | ⟨q, vm₁, ⟨U', l2, c2, s2⟩, hW₁, X', ⟨g', mk, t, L, E, ce, e1, e2, hq, hce, hcv, hcl, h1, hL, h2, h3⟩, st⟩
  · dsimp only [Pt.U, Pt.locs, Pt.cells, Pt.slots] at X' e1 e2 h1 h2 h3 st
    subst h1; subst h2; subst h3
    exact Or.inl ⟨v, (T.setVm vm₁).calling g' mk (Value.ref b :: As).toArray, t, U', L, hT, X', hL, e1, e2, hq, st⟩
  · dsimp only [Pt.U, Pt.locs, Pt.cells, Pt.slots] at X' e1 e2 h1 h2 h3 st hcl
    subst h1; subst h2; subst h3
    exact Or.inr ⟨q, (T.setVm vm₁).calling g' mk (Value.ref b :: As).toArray, t, U', L, E, ce, hT, X', hL, e1, e2, hq, hce, hcv, vx_cls hW₁ hcl, st⟩
theorem vx_runSX {hh : List (Nat × Nat × Nat × Nat)} (S : CallFix p m c cc nL s args Ts own) (hM : vx_Met l y ws rm Pc Qc XC mc ms free) (cw : vx_CSW R s args own index y bytes maxL ret hh ws rm mc ms n) (hp : PreS s H Pc As)
    (hg : g.method = m) (hn : As.length = n) (hsize : g.locals.size = nL) (hstack : g.stack = As.reverse ++ rest) (hW : 2 * g.monitorRoom + (rest.map fun v => v.category).sum ≤ 8) (hdg : decode cc g.pc = .ok (.invokestatic index, 3)) (hf : cells + mc ≤ R.cells ∧ slots + ms ≤ R.slots) :
    vx_Run p l e R s m args below meth c H locs cells slots mc ms g rest (Qc As.toArray) XC free := by
  obtain ⟨⟨hrc, hrs, hfr, hlo, hws, hcw⟩, hcode, hini, hy, hlen, hl, hstt⟩ := cw
  have hK : vx_Back l R p e below s args y 3 8 (PreOf R mc ms Pc) (PostOf Qc mc ms free) (vx_Post XC mc ms free) := vx_backW (hh := hh) (bytes := bytes) (maxL := maxL) (ret := ret) hM hp.1 hrc hrs hfr hlo hws hcw (fun a' U hW => word_at hW (Or.inl (by first | rfl | simp [Cond.onTables, Cond.keeps, Cond.steady])) hini)
  obtain ⟨hx, hb, hml, ho, -⟩ := S
  intro T hT X
  rcases vx_callSX X hx (hh := hh) (bytes := bytes) (maxL := maxL) (ret := ret) ho hl hstt hini hcode hy hK hg (hsize.trans hml.symm) (argsL := As) (rest := rest) (fun sig h => hn.trans (hlen sig h)) hstack hW (by rw [hb]; exact hdg)
    (fun vm₁ hW₁ => ⟨hf.1, hf.2, hp.2 (T.setVm vm₁) hT hW₁⟩) with ⟨v, vm₁, ⟨U', l2, c2, s2⟩, hW₁, X', ⟨g', mk, t, L, e1, e2, hq, h1, hL, h2, h3⟩, st⟩ | ⟨q, vm₁, ⟨U', l2, c2, s2⟩, hW₁, X', ⟨g', mk, t, L, E, ce, e1, e2, hq, hce, hcv, hcl, h1, hL, h2, h3⟩, st⟩
  · dsimp only [Pt.U, Pt.locs, Pt.cells, Pt.slots] at X' e1 e2 h1 h2 h3 st
    subst h1; subst h2; subst h3
    exact Or.inl ⟨v, (T.setVm vm₁).calling g' mk As.toArray, t, U', L, hT, X', hL, e1, e2, hq, st⟩
  · dsimp only [Pt.U, Pt.locs, Pt.cells, Pt.slots] at X' e1 e2 h1 h2 h3 st hcl
    subst h1; subst h2; subst h3
    exact Or.inr ⟨q, (T.setVm vm₁).calling g' mk As.toArray, t, U', L, E, ce, hT, X', hL, e1, e2, hq, hce, hcv, vx_cls hW₁ hcl, st⟩
end
end VXH
theorem vx_ofWH {l : Launch} {y : MethodName} {ws ws' : List Cond} {rm : Room} {Pc : Array Value → State → Prop} {Qc : Array Value → State → Outcome → State → Prop} {XC : String → State → State → Prop} {mc ms : Nat} {free : Addr → Prop} {cc : ByteArray} {maxL : Nat} {ret : Option FieldType} {hh : List (Nat × Nat × Nat × Nat)}
    (hy : plainName y.cls = true) (hw : ws = Cond.codeWith y cc maxL ret hh :: ws')
    (body : ∀ p e s m args below meth c s₁, BodyLoose p l y (headSpec ws rm) cc maxL ret e s m args below meth c s₁ → c.maxLocals = maxL → Pc args s →
      W p l e (headSpec ws rm).room s m args below meth c s.heap [] 0 0 (vx_MQ below Qc XC args s mc ms free) (entryFrame m args maxL)) : vx_Met l y ws rm Pc Qc XC mc ms free := by
  refine MetFree.of_bodyS (code := cc) (maxLocals := maxL) (ret := ret) hy ?_ ?_
  · intro args s m h hn
    obtain ⟨m9, meth, c, hn9, h1, h2, h3, h4, -, h5, h6, -⟩ := Cond.codeWith_spec (atoms_spec (ws := ws) h _ (by rw [hw]; exact List.mem_cons_self))
    cases hn.symm.trans hn9
    exact ⟨meth, c, h1, h2, h3, h4, h5, h6⟩
  · intro p e s m args below meth c s₁ B hml hP _
    have hh0 : s₁.heap = s.heap := by rw [B.state]; rfl
    obtain ⟨t, a1, o, b1, b2, b3⟩ := body p e s m args below meth c s₁ B hml hP s₁ hh0 (Stand.of_body B)
    exact ⟨t, o, a1, b1, b2, b3⟩
/-! ===== END ===== -/

def RX0 : String := "VariantKit$ByteRow"
def TX0 : u_T := fun k => match k with
  | 0 => ("VariantKit$ByteRow", "row", "[I", true)
  | 1 => ("VariantKit$ByteRow", "count", "I", false)
  | _ => ("VariantKit$ByteRow", "taken", "I", false)
def tyX0 : Nat → FieldType := fun k => match k with
  | 0 => .array .int
  | 1 => .int
  | _ => .int
abbrev wsX00 : List Cond := u_ws RX0 TX0 3
theorem nmX0 : ∀ a, a < 3 → ∀ b, b < 3 → a ≠ b → (TX0 a).2.1 ≠ (TX0 b).2.1 := by decide +kernel
theorem tyX0_ok : ∀ k, k < 3 → parseFieldDescriptor (TX0 k).2.2.1 = some (tyX0 k) := by decide +kernel
abbrev cX0_init : ByteArray := prog_2_method_1_code
def yX0_init : MethodName := ⟨RX0, "<init>", "()V"⟩
abbrev cX0_put : ByteArray := prog_2_method_2_code
def yX0_put : MethodName := ⟨RX0, "put", "(I)V"⟩
abbrev cX0_putNumber : ByteArray := prog_2_method_3_code
def yX0_putNumber : MethodName := ⟨RX0, "putNumber", "(II)V"⟩
abbrev cX0_putVariant : ByteArray := prog_2_method_4_code
def yX0_putVariant : MethodName := ⟨RX0, "putVariant", "(LVariantKit$Variant;)V"⟩
abbrev cX0_putAllele : ByteArray := prog_2_method_5_code
def yX0_putAllele : MethodName := ⟨RX0, "putAllele", "(II)V"⟩
abbrev cX0_putNumbers : ByteArray := prog_2_method_6_code
def yX0_putNumbers : MethodName := ⟨RX0, "putNumbers", "([III)V"⟩
abbrev cX0_isSame : ByteArray := prog_2_method_7_code
def yX0_isSame : MethodName := ⟨RX0, "isSame", "(LVariantKit$ByteRow;)Z"⟩
abbrev cX0_take : ByteArray := prog_2_method_8_code
def yX0_take : MethodName := ⟨RX0, "take", "()I"⟩
abbrev cX0_takeNumber : ByteArray := prog_2_method_9_code
def yX0_takeNumber : MethodName := ⟨RX0, "takeNumber", "(I)I"⟩
abbrev cX0_takeVariant : ByteArray := prog_2_method_10_code
def yX0_takeVariant : MethodName := ⟨RX0, "takeVariant", "(LVariantKit$Variant;LVariantKit$Reference;)Z"⟩
abbrev cX0_takeAlleles : ByteArray := prog_2_method_11_code
def yX0_takeAlleles : MethodName := ⟨RX0, "takeAlleles", "(LVariantKit$Variant;LVariantKit$Reference;)Z"⟩
abbrev cX0_takeBases : ByteArray := prog_2_method_12_code
def yX0_takeBases : MethodName := ⟨RX0, "takeBases", "(I)I"⟩
abbrev cX0_takeGenotype : ByteArray := prog_2_method_13_code
def yX0_takeGenotype : MethodName := ⟨RX0, "takeGenotype", "(LVariantKit$Variant;I)Z"⟩
abbrev cX0_takeNumbers : ByteArray := prog_2_method_14_code
def yX0_takeNumbers : MethodName := ⟨RX0, "takeNumbers", "([IIII)Z"⟩
def RX1 : String := "VariantKit$Joiner"
def TX1 : u_T := fun k => match k with
  | 0 => ("VariantKit$Joiner", "first", "LVariantKit$Variant;", true)
  | 1 => ("VariantKit$Joiner", "second", "LVariantKit$Variant;", true)
  | 2 => ("VariantKit$Joiner", "joined", "LVariantKit$Variant;", true)
  | _ => ("VariantKit$Joiner", "numbers", "[I", true)
def tyX1 : Nat → FieldType := fun k => match k with
  | 0 => .object "VariantKit$Variant"
  | 1 => .object "VariantKit$Variant"
  | 2 => .object "VariantKit$Variant"
  | _ => .array .int
abbrev wsX10 : List Cond := u_ws RX1 TX1 4
theorem nmX1 : ∀ a, a < 4 → ∀ b, b < 4 → a ≠ b → (TX1 a).2.1 ≠ (TX1 b).2.1 := by decide +kernel
theorem tyX1_ok : ∀ k, k < 4 → parseFieldDescriptor (TX1 k).2.2.1 = some (tyX1 k) := by decide +kernel
abbrev cX1_init : ByteArray := prog_3_method_1_code
def yX1_init : MethodName := ⟨RX1, "<init>", "()V"⟩
abbrev cX1_unite : ByteArray := prog_3_method_2_code
def yX1_unite : MethodName := ⟨RX1, "unite", "(LVariantKit$Variant;LVariantKit$Variant;)Z"⟩
abbrev cX1_uniteAlleles : ByteArray := prog_3_method_3_code
def yX1_uniteAlleles : MethodName := ⟨RX1, "uniteAlleles", "()Z"⟩
abbrev cX1_uniteDepths : ByteArray := prog_3_method_4_code
def yX1_uniteDepths : MethodName := ⟨RX1, "uniteDepths", "()V"⟩
abbrev cX1_uniteGenotypes : ByteArray := prog_3_method_5_code
def yX1_uniteGenotypes : MethodName := ⟨RX1, "uniteGenotypes", "()V"⟩
abbrev cX1_unitedAllele : ByteArray := prog_3_method_6_code
def yX1_unitedAllele : MethodName := ⟨RX1, "unitedAllele", "(II)I"⟩
abbrev cX1_uniteLikelihoods : ByteArray := prog_3_method_7_code
def yX1_uniteLikelihoods : MethodName := ⟨RX1, "uniteLikelihoods", "()V"⟩
def RX2 : String := "VariantKit$RecordList"
def TX2 : u_T := fun k => match k with
  | 0 => ("VariantKit$RecordList", "rows", "[LVariantKit$Variant;", true)
  | _ => ("VariantKit$RecordList", "size", "I", false)
def tyX2 : Nat → FieldType := fun k => match k with
  | 0 => .array (.object "VariantKit$Variant")
  | _ => .int
abbrev wsX20 : List Cond := u_ws RX2 TX2 2
theorem nmX2 : ∀ a, a < 2 → ∀ b, b < 2 → a ≠ b → (TX2 a).2.1 ≠ (TX2 b).2.1 := by decide +kernel
theorem tyX2_ok : ∀ k, k < 2 → parseFieldDescriptor (TX2 k).2.2.1 = some (tyX2 k) := by decide +kernel
abbrev cX2_init : ByteArray := prog_4_method_1_code
def yX2_init : MethodName := ⟨RX2, "<init>", "()V"⟩
abbrev cX2_isFull : ByteArray := prog_4_method_2_code
def yX2_isFull : MethodName := ⟨RX2, "isFull", "()Z"⟩
abbrev cX2_insert : ByteArray := prog_4_method_3_code
def yX2_insert : MethodName := ⟨RX2, "insert", "(LVariantKit$Variant;)I"⟩
abbrev cX2_open : ByteArray := prog_4_method_4_code
def yX2_open : MethodName := ⟨RX2, "open", "(I)LVariantKit$Variant;"⟩
abbrev cX2_close : ByteArray := prog_4_method_5_code
def yX2_close : MethodName := ⟨RX2, "close", "(I)V"⟩
def RX3 : String := "VariantKit$Reference"
def TX3 : u_T := fun k => match k with
  | 0 => ("VariantKit$Reference", "bases", "[I", true)
  | _ => ("VariantKit$Reference", "length", "I", false)
def tyX3 : Nat → FieldType := fun k => match k with
  | 0 => .array .int
  | _ => .int
abbrev wsX30 : List Cond := u_ws RX3 TX3 2
theorem nmX3 : ∀ a, a < 2 → ∀ b, b < 2 → a ≠ b → (TX3 a).2.1 ≠ (TX3 b).2.1 := by decide +kernel
theorem tyX3_ok : ∀ k, k < 2 → parseFieldDescriptor (TX3 k).2.2.1 = some (tyX3 k) := by decide +kernel
abbrev cX3_init : ByteArray := prog_5_method_1_code
def yX3_init : MethodName := ⟨RX3, "<init>", "()V"⟩
abbrev cX3_append : ByteArray := prog_5_method_2_code
def yX3_append : MethodName := ⟨RX3, "append", "(JI)V"⟩
abbrev cX3_covers : ByteArray := prog_5_method_3_code
def yX3_covers : MethodName := ⟨RX3, "covers", "(II)Z"⟩
abbrev cX3_packed : ByteArray := prog_5_method_4_code
def yX3_packed : MethodName := ⟨RX3, "packed", "(II)I"⟩
def RX4 : String := "VariantKit$Variant"
def TX4 : u_T := fun k => match k with
  | 0 => ("VariantKit$Variant", "place", "I", false)
  | 1 => ("VariantKit$Variant", "quality", "I", false)
  | 2 => ("VariantKit$Variant", "alleles", "I", false)
  | 3 => ("VariantKit$Variant", "packed", "[I", true)
  | 4 => ("VariantKit$Variant", "lengths", "[I", true)
  | 5 => ("VariantKit$Variant", "depths", "[I", true)
  | 6 => ("VariantKit$Variant", "genotypes", "[I", true)
  | 7 => ("VariantKit$Variant", "phased", "[Z", true)
  | _ => ("VariantKit$Variant", "likelihoods", "[I", true)
def tyX4 : Nat → FieldType := fun k => match k with
  | 0 => .int
  | 1 => .int
  | 2 => .int
  | 3 => .array .int
  | 4 => .array .int
  | 5 => .array .int
  | 6 => .array .int
  | 7 => .array .boolean
  | _ => .array .int
abbrev wsX40 : List Cond := u_ws RX4 TX4 9
theorem nmX4 : ∀ a, a < 9 → ∀ b, b < 9 → a ≠ b → (TX4 a).2.1 ≠ (TX4 b).2.1 := by decide +kernel
theorem tyX4_ok : ∀ k, k < 9 → parseFieldDescriptor (TX4 k).2.2.1 = some (tyX4 k) := by decide +kernel
abbrev cX4_init : ByteArray := prog_6_method_1_code
def yX4_init : MethodName := ⟨RX4, "<init>", "()V"⟩
abbrev cX4_clear : ByteArray := prog_6_method_2_code
def yX4_clear : MethodName := ⟨RX4, "clear", "()V"⟩
abbrev cX4_fillLikelihoods : ByteArray := prog_6_method_3_code
def yX4_fillLikelihoods : MethodName := ⟨RX4, "fillLikelihoods", "(I)V"⟩
abbrev cX4_copy : ByteArray := prog_6_method_4_code
def yX4_copy : MethodName := ⟨RX4, "copy", "(LVariantKit$Variant;)V"⟩
abbrev cX4_appendAllele : ByteArray := prog_6_method_5_code
def yX4_appendAllele : MethodName := ⟨RX4, "appendAllele", "(II)V"⟩
abbrev cX4_find : ByteArray := prog_6_method_6_code
def yX4_find : MethodName := ⟨RX4, "find", "(II)I"⟩
abbrev cX4_hasAllele : ByteArray := prog_6_method_7_code
def yX4_hasAllele : MethodName := ⟨RX4, "hasAllele", "(I)Z"⟩
abbrev cX4_allowsInGenotype : ByteArray := prog_6_method_8_code
def yX4_allowsInGenotype : MethodName := ⟨RX4, "allowsInGenotype", "(I)Z"⟩
abbrev cX4_pairs : ByteArray := prog_6_method_9_code
def yX4_pairs : MethodName := ⟨RX4, "pairs", "()I"⟩
abbrev cX4_lastPlace : ByteArray := prog_6_method_10_code
def yX4_lastPlace : MethodName := ⟨RX4, "lastPlace", "()I"⟩
abbrev cX4_spansOneOf : ByteArray := prog_6_method_11_code
def yX4_spansOneOf : MethodName := ⟨RX4, "spansOneOf", "(II)Z"⟩
abbrev cX4_bin : ByteArray := prog_6_method_12_code
def yX4_bin : MethodName := ⟨RX4, "bin", "()I"⟩
abbrev cX4_trim : ByteArray := prog_6_method_13_code
def yX4_trim : MethodName := ⟨RX4, "trim", "(LVariantKit$Reference;)V"⟩
abbrev cX4_trimEnd : ByteArray := prog_6_method_14_code
def yX4_trimEnd : MethodName := ⟨RX4, "trimEnd", "(LVariantKit$Reference;)Z"⟩
abbrev cX4_trimFront : ByteArray := prog_6_method_15_code
def yX4_trimFront : MethodName := ⟨RX4, "trimFront", "()Z"⟩
abbrev cX4_putInFront : ByteArray := prog_6_method_16_code
def yX4_putInFront : MethodName := ⟨RX4, "putInFront", "(I)V"⟩
abbrev cX4_shortest : ByteArray := prog_6_method_17_code
def yX4_shortest : MethodName := ⟨RX4, "shortest", "()I"⟩
abbrev cX4_isLastBaseShared : ByteArray := prog_6_method_18_code
def yX4_isLastBaseShared : MethodName := ⟨RX4, "isLastBaseShared", "()Z"⟩
abbrev cX4_isFirstBaseShared : ByteArray := prog_6_method_19_code
def yX4_isFirstBaseShared : MethodName := ⟨RX4, "isFirstBaseShared", "()Z"⟩
abbrev cX4_becomePart : ByteArray := prog_6_method_20_code
def yX4_becomePart : MethodName := ⟨RX4, "becomePart", "(LVariantKit$Variant;I)V"⟩
abbrev cX4_appendAlleleOf : ByteArray := prog_6_method_21_code
def yX4_appendAlleleOf : MethodName := ⟨RX4, "appendAlleleOf", "(LVariantKit$Variant;I)V"⟩
abbrev cX4_lengthenLike : ByteArray := prog_6_method_22_code
def yX4_lengthenLike : MethodName := ⟨RX4, "lengthenLike", "(LVariantKit$Variant;)V"⟩
abbrev cX4_hasTooLongAllele : ByteArray := prog_6_method_23_code
def yX4_hasTooLongAllele : MethodName := ⟨RX4, "hasTooLongAllele", "()Z"⟩
def RX5 : String := "VariantKit"
def TX5 : u_T := fun k => match k with
  | 0 => ("VariantKit", "reference", "LVariantKit$Reference;", true)
  | 1 => ("VariantKit", "list", "LVariantKit$RecordList;", true)
  | 2 => ("VariantKit", "draft", "LVariantKit$Variant;", true)
  | 3 => ("VariantKit", "drafted", "Z", false)
  | 4 => ("VariantKit", "scratch", "LVariantKit$Variant;", true)
  | 5 => ("VariantKit", "joiner", "LVariantKit$Joiner;", true)
  | 6 => ("VariantKit", "typed", "LVariantKit$ByteRow;", true)
  | _ => ("VariantKit", "output", "LVariantKit$ByteRow;", true)
def tyX5 : Nat → FieldType := fun k => match k with
  | 0 => .object "VariantKit$Reference"
  | 1 => .object "VariantKit$RecordList"
  | 2 => .object "VariantKit$Variant"
  | 3 => .boolean
  | 4 => .object "VariantKit$Variant"
  | 5 => .object "VariantKit$Joiner"
  | 6 => .object "VariantKit$ByteRow"
  | _ => .object "VariantKit$ByteRow"
abbrev wsX50 : List Cond := u_ws RX5 TX5 8
theorem nmX5 : ∀ a, a < 8 → ∀ b, b < 8 → a ≠ b → (TX5 a).2.1 ≠ (TX5 b).2.1 := by decide +kernel
theorem tyX5_ok : ∀ k, k < 8 → parseFieldDescriptor (TX5 k).2.2.1 = some (tyX5 k) := by decide +kernel
abbrev cX5_init : ByteArray := prog_1_method_1_code
def yX5_init : MethodName := ⟨RX5, "<init>", "()V"⟩
abbrev cX5_reference : ByteArray := prog_1_method_2_code
def yX5_reference : MethodName := ⟨RX5, "reference", "(JI)I"⟩
abbrev cX5_draft : ByteArray := prog_1_method_3_code
def yX5_draft : MethodName := ⟨RX5, "draft", "(II)V"⟩
abbrev cX5_allele : ByteArray := prog_1_method_4_code
def yX5_allele : MethodName := ⟨RX5, "allele", "(JI)I"⟩
abbrev cX5_depth : ByteArray := prog_1_method_5_code
def yX5_depth : MethodName := ⟨RX5, "depth", "(III)V"⟩
abbrev cX5_genotype : ByteArray := prog_1_method_6_code
def yX5_genotype : MethodName := ⟨RX5, "genotype", "(IIIZ)V"⟩
abbrev cX5_likelihood : ByteArray := prog_1_method_7_code
def yX5_likelihood : MethodName := ⟨RX5, "likelihood", "(III)V"⟩
abbrev cX5_add : ByteArray := prog_1_method_8_code
def yX5_add : MethodName := ⟨RX5, "add", "()I"⟩
abbrev cX5_remove : ByteArray := prog_1_method_9_code
def yX5_remove : MethodName := ⟨RX5, "remove", "(I)V"⟩
abbrev cX5_normalise : ByteArray := prog_1_method_10_code
def yX5_normalise : MethodName := ⟨RX5, "normalise", "(I)I"⟩
abbrev cX5_split : ByteArray := prog_1_method_11_code
def yX5_split : MethodName := ⟨RX5, "split", "(I)I"⟩
abbrev cX5_join : ByteArray := prog_1_method_12_code
def yX5_join : MethodName := ⟨RX5, "join", "(I)V"⟩
abbrev cX5_written : ByteArray := prog_1_method_13_code
def yX5_written : MethodName := ⟨RX5, "written", "(II)I"⟩
abbrev cX5_type : ByteArray := prog_1_method_14_code
def yX5_type : MethodName := ⟨RX5, "type", "(JI)V"⟩
abbrev cX5_read : ByteArray := prog_1_method_15_code
def yX5_read : MethodName := ⟨RX5, "read", "()I"⟩
abbrev cX5_records : ByteArray := prog_1_method_16_code
def yX5_records : MethodName := ⟨RX5, "records", "()I"⟩
abbrev cX5_about : ByteArray := prog_1_method_17_code
def yX5_about : MethodName := ⟨RX5, "about", "(II)I"⟩
abbrev cX5_base : ByteArray := prog_1_method_18_code
def yX5_base : MethodName := ⟨RX5, "base", "(III)I"⟩
abbrev cX5_found : ByteArray := prog_1_method_19_code
def yX5_found : MethodName := ⟨RX5, "found", "(II)I"⟩
abbrev cX5_mean : ByteArray := prog_1_method_20_code
def yX5_mean : MethodName := ⟨RX5, "mean", "(II)F"⟩
abbrev cX5_requireRecord : ByteArray := prog_1_method_21_code
def yX5_requireRecord : MethodName := ⟨RX5, "requireRecord", "(I)V"⟩
abbrev cX5_requireRegion : ByteArray := prog_1_method_22_code
def yX5_requireRegion : MethodName := ⟨RX5, "requireRegion", "(II)V"⟩
abbrev cX5_takeTyped : ByteArray := prog_1_method_23_code
def yX5_takeTyped : MethodName := ⟨RX5, "takeTyped", "()Z"⟩
abbrev cX5_isWithin : ByteArray := prog_1_method_24_code
def yX5_isWithin : MethodName := ⟨RX5, "isWithin", "(II)Z"⟩
abbrev cX5_isSample : ByteArray := prog_1_method_25_code
def yX5_isSample : MethodName := ⟨RX5, "isSample", "(I)Z"⟩
abbrev cX5_lowBases : ByteArray := prog_1_method_26_code
def yX5_lowBases : MethodName := ⟨RX5, "lowBases", "(I)I"⟩
abbrev cX5_baseOf : ByteArray := prog_1_method_27_code
def yX5_baseOf : MethodName := ⟨RX5, "baseOf", "(JII)I"⟩
abbrev cX5_pairNumber : ByteArray := prog_1_method_28_code
def yX5_pairNumber : MethodName := ⟨RX5, "pairNumber", "(II)I"⟩
def RX6 : String := "VariantKitModel"
def TX6 : u_T := fun k => match k with
  | 0 => ("VariantKitModel", "thrown", "I", false)
  | 1 => ("VariantKitModel", "reference", "[I", true)
  | 2 => ("VariantKitModel", "places", "I", false)
  | 3 => ("VariantKitModel", "drafted", "Z", false)
  | 4 => ("VariantKitModel", "records", "I", false)
  | 5 => ("VariantKitModel", "rows", "[I", true)
  | 6 => ("VariantKitModel", "out", "[I", true)
  | 7 => ("VariantKitModel", "outSize", "I", false)
  | 8 => ("VariantKitModel", "in", "[I", true)
  | 9 => ("VariantKitModel", "inSize", "I", false)
  | _ => ("VariantKitModel", "of", "[I", true)
def tyX6 : Nat → FieldType := fun k => match k with
  | 0 => .int
  | 1 => .array .int
  | 2 => .int
  | 3 => .boolean
  | 4 => .int
  | 5 => .array .int
  | 6 => .array .int
  | 7 => .int
  | 8 => .array .int
  | 9 => .int
  | _ => .array .int
abbrev wsX60 : List Cond := u_ws RX6 TX6 11
theorem nmX6 : ∀ a, a < 11 → ∀ b, b < 11 → a ≠ b → (TX6 a).2.1 ≠ (TX6 b).2.1 := by decide +kernel
theorem tyX6_ok : ∀ k, k < 11 → parseFieldDescriptor (TX6 k).2.2.1 = some (tyX6 k) := by decide +kernel
abbrev cX6_init : ByteArray := prog_8_method_1_code
def yX6_init : MethodName := ⟨RX6, "<init>", "()V"⟩
abbrev cX6_thrown : ByteArray := prog_8_method_2_code
def yX6_thrown : MethodName := ⟨RX6, "thrown", "()I"⟩
abbrev cX6_throwing : ByteArray := prog_8_method_3_code
def yX6_throwing : MethodName := ⟨RX6, "throwing", "(ZZ)Z"⟩
abbrev cX6_out : ByteArray := prog_8_method_4_code
def yX6_out : MethodName := ⟨RX6, "out", "(II)Z"⟩
abbrev cX6_get : ByteArray := prog_8_method_5_code
def yX6_get : MethodName := ⟨RX6, "get", "(II)I"⟩
abbrev cX6_put : ByteArray := prog_8_method_6_code
def yX6_put : MethodName := ⟨RX6, "put", "(III)V"⟩
abbrev cX6_copy : ByteArray := prog_8_method_7_code
def yX6_copy : MethodName := ⟨RX6, "copy", "(II)V"⟩
abbrev cX6_empty : ByteArray := prog_8_method_8_code
def yX6_empty : MethodName := ⟨RX6, "empty", "(II)V"⟩
abbrev cX6_addAllele : ByteArray := prog_8_method_9_code
def yX6_addAllele : MethodName := ⟨RX6, "addAllele", "(III)V"⟩
abbrev cX6_findAllele : ByteArray := prog_8_method_10_code
def yX6_findAllele : MethodName := ⟨RX6, "findAllele", "(III)I"⟩
abbrev cX6_referenceFrom : ByteArray := prog_8_method_11_code
def yX6_referenceFrom : MethodName := ⟨RX6, "referenceFrom", "(II)I"⟩
abbrev cX6_pair : ByteArray := prog_8_method_12_code
def yX6_pair : MethodName := ⟨RX6, "pair", "(II)I"⟩
abbrev cX6_pairs : ByteArray := prog_8_method_13_code
def yX6_pairs : MethodName := ⟨RX6, "pairs", "(I)I"⟩
abbrev cX6_reference : ByteArray := prog_8_method_14_code
def yX6_reference : MethodName := ⟨RX6, "reference", "(JI)I"⟩
abbrev cX6_draft : ByteArray := prog_8_method_15_code
def yX6_draft : MethodName := ⟨RX6, "draft", "(II)V"⟩
abbrev cX6_allele : ByteArray := prog_8_method_16_code
def yX6_allele : MethodName := ⟨RX6, "allele", "(JI)I"⟩
abbrev cX6_depth : ByteArray := prog_8_method_17_code
def yX6_depth : MethodName := ⟨RX6, "depth", "(III)V"⟩
abbrev cX6_genotype : ByteArray := prog_8_method_18_code
def yX6_genotype : MethodName := ⟨RX6, "genotype", "(IIIZ)V"⟩
abbrev cX6_likelihood : ByteArray := prog_8_method_19_code
def yX6_likelihood : MethodName := ⟨RX6, "likelihood", "(III)V"⟩
abbrev cX6_add : ByteArray := prog_8_method_20_code
def yX6_add : MethodName := ⟨RX6, "add", "()I"⟩
abbrev cX6_enter : ByteArray := prog_8_method_21_code
def yX6_enter : MethodName := ⟨RX6, "enter", "(I)I"⟩
abbrev cX6_open : ByteArray := prog_8_method_22_code
def yX6_open : MethodName := ⟨RX6, "open", "(I)V"⟩
abbrev cX6_close : ByteArray := prog_8_method_23_code
def yX6_close : MethodName := ⟨RX6, "close", "(I)V"⟩
abbrev cX6_remove : ByteArray := prog_8_method_24_code
def yX6_remove : MethodName := ⟨RX6, "remove", "(I)V"⟩
abbrev cX6_shortest : ByteArray := prog_8_method_25_code
def yX6_shortest : MethodName := ⟨RX6, "shortest", "(I)I"⟩
abbrev cX6_same : ByteArray := prog_8_method_26_code
def yX6_same : MethodName := ⟨RX6, "same", "(IZ)Z"⟩
abbrev cX6_edge : ByteArray := prog_8_method_27_code
def yX6_edge : MethodName := ⟨RX6, "edge", "(IIZ)I"⟩
abbrev cX6_step : ByteArray := prog_8_method_28_code
def yX6_step : MethodName := ⟨RX6, "step", "(I)Z"⟩
abbrev cX6_normalise : ByteArray := prog_8_method_29_code
def yX6_normalise : MethodName := ⟨RX6, "normalise", "(I)I"⟩
abbrev cX6_part : ByteArray := prog_8_method_30_code
def yX6_part : MethodName := ⟨RX6, "part", "(II)V"⟩
abbrev cX6_split : ByteArray := prog_8_method_31_code
def yX6_split : MethodName := ⟨RX6, "split", "(I)I"⟩
abbrev cX6_gather : ByteArray := prog_8_method_32_code
def yX6_gather : MethodName := ⟨RX6, "gather", "(II)Z"⟩
abbrev cX6_back : ByteArray := prog_8_method_33_code
def yX6_back : MethodName := ⟨RX6, "back", "(III)I"⟩
abbrev cX6_likely : ByteArray := prog_8_method_34_code
def yX6_likely : MethodName := ⟨RX6, "likely", "(IIIII)I"⟩
abbrev cX6_joinSample : ByteArray := prog_8_method_35_code
def yX6_joinSample : MethodName := ⟨RX6, "joinSample", "(III)V"⟩
abbrev cX6_join : ByteArray := prog_8_method_36_code
def yX6_join : MethodName := ⟨RX6, "join", "(I)V"⟩
abbrev cX6_write : ByteArray := prog_8_method_37_code
def yX6_write : MethodName := ⟨RX6, "write", "(I)V"⟩
abbrev cX6_writeRow : ByteArray := prog_8_method_38_code
def yX6_writeRow : MethodName := ⟨RX6, "writeRow", "(III)V"⟩
abbrev cX6_letter : ByteArray := prog_8_method_39_code
def yX6_letter : MethodName := ⟨RX6, "letter", "(I)I"⟩
abbrev cX6_writeOut : ByteArray := prog_8_method_40_code
def yX6_writeOut : MethodName := ⟨RX6, "writeOut", "(I)V"⟩
abbrev cX6_written : ByteArray := prog_8_method_41_code
def yX6_written : MethodName := ⟨RX6, "written", "(II)I"⟩
abbrev cX6_type : ByteArray := prog_8_method_42_code
def yX6_type : MethodName := ⟨RX6, "type", "(JI)V"⟩
abbrev cX6_byteAt : ByteArray := prog_8_method_43_code
def yX6_byteAt : MethodName := ⟨RX6, "byteAt", "(I)I"⟩
abbrev cX6_twoAt : ByteArray := prog_8_method_44_code
def yX6_twoAt : MethodName := ⟨RX6, "twoAt", "(I)I"⟩
abbrev cX6_readRow : ByteArray := prog_8_method_45_code
def yX6_readRow : MethodName := ⟨RX6, "readRow", "(III)I"⟩
abbrev cX6_baseOf : ByteArray := prog_8_method_46_code
def yX6_baseOf : MethodName := ⟨RX6, "baseOf", "(I)I"⟩
abbrev cX6_taken : ByteArray := prog_8_method_47_code
def yX6_taken : MethodName := ⟨RX6, "taken", "()Z"⟩
abbrev cX6_inRange : ByteArray := prog_8_method_48_code
def yX6_inRange : MethodName := ⟨RX6, "inRange", "(I)Z"⟩
abbrev cX6_read : ByteArray := prog_8_method_49_code
def yX6_read : MethodName := ⟨RX6, "read", "()I"⟩
abbrev cX6_records : ByteArray := prog_8_method_50_code
def yX6_records : MethodName := ⟨RX6, "records", "()I"⟩
abbrev cX6_binOf : ByteArray := prog_8_method_51_code
def yX6_binOf : MethodName := ⟨RX6, "binOf", "(I)I"⟩
abbrev cX6_about : ByteArray := prog_8_method_52_code
def yX6_about : MethodName := ⟨RX6, "about", "(II)I"⟩
abbrev cX6_base : ByteArray := prog_8_method_53_code
def yX6_base : MethodName := ⟨RX6, "base", "(III)I"⟩
abbrev cX6_isBad : ByteArray := prog_8_method_54_code
def yX6_isBad : MethodName := ⟨RX6, "isBad", "(II)Z"⟩
abbrev cX6_spans : ByteArray := prog_8_method_55_code
def yX6_spans : MethodName := ⟨RX6, "spans", "(III)Z"⟩
abbrev cX6_found : ByteArray := prog_8_method_56_code
def yX6_found : MethodName := ⟨RX6, "found", "(II)I"⟩
abbrev cX6_mean : ByteArray := prog_8_method_57_code
def yX6_mean : MethodName := ⟨RX6, "mean", "(II)F"⟩
def RJ9 : String := "java/lang/Math"
def TJ9 : u_T := fun k => match k with
  | _ => ("", "", "", false)
def tyJ9 : Nat → FieldType := fun k => match k with
  | _ => .int
abbrev wsJ90 : List Cond := u_ws RJ9 TJ9 0
theorem nmJ9 : ∀ a, a < 0 → ∀ b, b < 0 → a ≠ b → (TJ9 a).2.1 ≠ (TJ9 b).2.1 := by decide +kernel
theorem tyJ9_ok : ∀ k, k < 0 → parseFieldDescriptor (TJ9 k).2.2.1 = some (tyJ9 k) := by decide +kernel
abbrev cJ9_max_7cf53 : ByteArray := prog_13_method_65_code
def yJ9_max_7cf53 : MethodName := ⟨RJ9, "max", "(II)I"⟩
abbrev cJ9_min_7cf53 : ByteArray := prog_13_method_69_code
def yJ9_min_7cf53 : MethodName := ⟨RJ9, "min", "(II)I"⟩
def RJ0 : String := "java/lang/String"
def TJ0 : u_T := fun k => match k with
  | _ => ("", "", "", false)
def tyJ0 : Nat → FieldType := fun k => match k with
  | _ => .int
abbrev wsJ00 : List Cond := u_ws RJ0 TJ0 0
theorem nmJ0 : ∀ a, a < 0 → ∀ b, b < 0 → a ≠ b → (TJ0 a).2.1 ≠ (TJ0 b).2.1 := by decide +kernel
theorem tyJ0_ok : ∀ k, k < 0 → parseFieldDescriptor (TJ0 k).2.2.1 = some (tyJ0 k) := by decide +kernel
def RJ10 : String := "java/lang/System"
def TJ10 : u_T := fun k => match k with
  | _ => ("", "", "", false)
def tyJ10 : Nat → FieldType := fun k => match k with
  | _ => .int
abbrev wsJ100 : List Cond := u_ws RJ10 TJ10 0
theorem nmJ10 : ∀ a, a < 0 → ∀ b, b < 0 → a ≠ b → (TJ10 a).2.1 ≠ (TJ10 b).2.1 := by decide +kernel
theorem tyJ10_ok : ∀ k, k < 0 → parseFieldDescriptor (TJ10 k).2.2.1 = some (tyJ10 k) := by decide +kernel
def RL : String := "VariantKitLaw"
abbrev cL_reference : ByteArray := method_3_code
def yL_reference : MethodName := ⟨RL, "reference", "(LVariantKit;JI[J)I"⟩
abbrev cL_draft : ByteArray := method_4_code
def yL_draft : MethodName := ⟨RL, "draft", "(LVariantKit;II)I"⟩
abbrev cL_allele : ByteArray := method_5_code
def yL_allele : MethodName := ⟨RL, "allele", "(LVariantKit;JI[J)I"⟩
abbrev cL_depth : ByteArray := method_6_code
def yL_depth : MethodName := ⟨RL, "depth", "(LVariantKit;III)I"⟩
abbrev cL_genotype : ByteArray := method_7_code
def yL_genotype : MethodName := ⟨RL, "genotype", "(LVariantKit;IIIZ)I"⟩
abbrev cL_likelihood : ByteArray := method_8_code
def yL_likelihood : MethodName := ⟨RL, "likelihood", "(LVariantKit;III)I"⟩
abbrev cL_add : ByteArray := method_9_code
def yL_add : MethodName := ⟨RL, "add", "(LVariantKit;[J)I"⟩
abbrev cL_remove : ByteArray := method_10_code
def yL_remove : MethodName := ⟨RL, "remove", "(LVariantKit;I)I"⟩
abbrev cL_normalise : ByteArray := method_11_code
def yL_normalise : MethodName := ⟨RL, "normalise", "(LVariantKit;I[J)I"⟩
abbrev cL_split : ByteArray := method_12_code
def yL_split : MethodName := ⟨RL, "split", "(LVariantKit;I[J)I"⟩
abbrev cL_join : ByteArray := method_13_code
def yL_join : MethodName := ⟨RL, "join", "(LVariantKit;I)I"⟩
abbrev cL_written : ByteArray := method_14_code
def yL_written : MethodName := ⟨RL, "written", "(LVariantKit;II[J)I"⟩
abbrev cL_type : ByteArray := method_15_code
def yL_type : MethodName := ⟨RL, "type", "(LVariantKit;JI)I"⟩
abbrev cL_read : ByteArray := method_16_code
def yL_read : MethodName := ⟨RL, "read", "(LVariantKit;[J)I"⟩
abbrev cL_about : ByteArray := method_17_code
def yL_about : MethodName := ⟨RL, "about", "(LVariantKit;II[J)I"⟩
abbrev cL_base : ByteArray := method_18_code
def yL_base : MethodName := ⟨RL, "base", "(LVariantKit;III[J)I"⟩
abbrev cL_found : ByteArray := method_19_code
def yL_found : MethodName := ⟨RL, "found", "(LVariantKit;II[J)I"⟩
abbrev cL_mean : ByteArray := method_20_code
def yL_mean : MethodName := ⟨RL, "mean", "(LVariantKit;II[D)I"⟩
abbrev cL_law : ByteArray := code
def yL_law : MethodName := ⟨RL, "law", "([I)Z"⟩
abbrev vwCl : List vw_C := [(RX0, TX0, 3), (RX1, TX1, 4), (RX2, TX2, 2), (RX3, TX3, 2), (RX4, TX4, 9), (RX5, TX5, 8), (RX6, TX6, 11)]
end
section
theorem dX0_init_0 : decode cX0_init 0 = .ok (.aload_n 0, 1) := by decide +kernel
theorem dX0_init_1 : decode cX0_init 1 = .ok (.invokespecial 3, 3) := by decide +kernel
theorem dX0_init_4 : decode cX0_init 4 = .ok (.aload_n 0, 1) := by decide +kernel
theorem dX0_init_5 : decode cX0_init 5 = .ok (.bipush 120, 2) := by decide +kernel
theorem dX0_init_7 : decode cX0_init 7 = .ok (.newarray .int, 2) := by decide +kernel
theorem dX0_init_9 : decode cX0_init 9 = .ok (.putfield 9, 3) := by decide +kernel
theorem dX0_init_12 : decode cX0_init 12 = .ok (.aload_n 0, 1) := by decide +kernel
theorem dX0_init_13 : decode cX0_init 13 = .ok (.iconst 0, 1) := by decide +kernel
theorem dX0_init_14 : decode cX0_init 14 = .ok (.putfield 15, 3) := by decide +kernel
theorem dX0_init_17 : decode cX0_init 17 = .ok (.aload_n 0, 1) := by decide +kernel
theorem dX0_init_18 : decode cX0_init 18 = .ok (.iconst 0, 1) := by decide +kernel
theorem dX0_init_19 : decode cX0_init 19 = .ok (.putfield 19, 3) := by decide +kernel
theorem dX0_init_22 : decode cX0_init 22 = .ok (.return_, 1) := by decide +kernel
theorem dX0_put_0 : decode cX0_put 0 = .ok (.aload_n 0, 1) := by decide +kernel
theorem dX0_put_1 : decode cX0_put 1 = .ok (.getfield 15, 3) := by decide +kernel
theorem dX0_put_4 : decode cX0_put 4 = .ok (.bipush 120, 2) := by decide +kernel
theorem dX0_put_6 : decode cX0_put 6 = .ok (.if_icmp .ge 23, 3) := by decide +kernel
theorem dX0_put_9 : decode cX0_put 9 = .ok (.aload_n 0, 1) := by decide +kernel
theorem dX0_put_10 : decode cX0_put 10 = .ok (.getfield 9, 3) := by decide +kernel
theorem dX0_put_13 : decode cX0_put 13 = .ok (.aload_n 0, 1) := by decide +kernel
theorem dX0_put_14 : decode cX0_put 14 = .ok (.getfield 15, 3) := by decide +kernel
theorem dX0_put_17 : decode cX0_put 17 = .ok (.iload_n 1, 1) := by decide +kernel
theorem dX0_put_18 : decode cX0_put 18 = .ok (.iastore, 1) := by decide +kernel
theorem dX0_put_19 : decode cX0_put 19 = .ok (.aload_n 0, 1) := by decide +kernel
theorem dX0_put_20 : decode cX0_put 20 = .ok (.dup, 1) := by decide +kernel
theorem dX0_put_21 : decode cX0_put 21 = .ok (.getfield 15, 3) := by decide +kernel
theorem dX0_put_24 : decode cX0_put 24 = .ok (.iconst 1, 1) := by decide +kernel
theorem dX0_put_25 : decode cX0_put 25 = .ok (.iadd, 1) := by decide +kernel
theorem dX0_put_26 : decode cX0_put 26 = .ok (.putfield 15, 3) := by decide +kernel
theorem dX0_put_29 : decode cX0_put 29 = .ok (.return_, 1) := by decide +kernel
theorem dX0_putNumber_0 : decode cX0_putNumber 0 = .ok (.aload_n 0, 1) := by decide +kernel
theorem dX0_putNumber_1 : decode cX0_putNumber 1 = .ok (.iload_n 1, 1) := by decide +kernel
theorem dX0_putNumber_2 : decode cX0_putNumber 2 = .ok (.sipush 255, 3) := by decide +kernel
theorem dX0_putNumber_5 : decode cX0_putNumber 5 = .ok (.iand, 1) := by decide +kernel
theorem dX0_putNumber_6 : decode cX0_putNumber 6 = .ok (.invokevirtual 22, 3) := by decide +kernel
theorem dX0_putNumber_9 : decode cX0_putNumber 9 = .ok (.iload_n 2, 1) := by decide +kernel
theorem dX0_putNumber_10 : decode cX0_putNumber 10 = .ok (.iconst 2, 1) := by decide +kernel
theorem dX0_putNumber_11 : decode cX0_putNumber 11 = .ok (.if_icmp .ne 11, 3) := by decide +kernel
theorem dX0_putNumber_14 : decode cX0_putNumber 14 = .ok (.aload_n 0, 1) := by decide +kernel
theorem dX0_putNumber_15 : decode cX0_putNumber 15 = .ok (.iload_n 1, 1) := by decide +kernel
theorem dX0_putNumber_16 : decode cX0_putNumber 16 = .ok (.bipush 8, 2) := by decide +kernel
theorem dX0_putNumber_18 : decode cX0_putNumber 18 = .ok (.ishr, 1) := by decide +kernel
theorem dX0_putNumber_19 : decode cX0_putNumber 19 = .ok (.invokevirtual 22, 3) := by decide +kernel
theorem dX0_putNumber_22 : decode cX0_putNumber 22 = .ok (.return_, 1) := by decide +kernel
theorem dX0_putVariant_0 : decode cX0_putVariant 0 = .ok (.aload_n 0, 1) := by decide +kernel
theorem dX0_putVariant_1 : decode cX0_putVariant 1 = .ok (.iconst 0, 1) := by decide +kernel
theorem dX0_putVariant_2 : decode cX0_putVariant 2 = .ok (.putfield 15, 3) := by decide +kernel
theorem dX0_putVariant_5 : decode cX0_putVariant 5 = .ok (.aload_n 0, 1) := by decide +kernel
theorem dX0_putVariant_6 : decode cX0_putVariant 6 = .ok (.aload_n 1, 1) := by decide +kernel
theorem dX0_putVariant_7 : decode cX0_putVariant 7 = .ok (.getfield 26, 3) := by decide +kernel
theorem dX0_putVariant_10 : decode cX0_putVariant 10 = .ok (.iconst 2, 1) := by decide +kernel
theorem dX0_putVariant_11 : decode cX0_putVariant 11 = .ok (.invokevirtual 31, 3) := by decide +kernel
theorem dX0_putVariant_14 : decode cX0_putVariant 14 = .ok (.aload_n 0, 1) := by decide +kernel
theorem dX0_putVariant_15 : decode cX0_putVariant 15 = .ok (.aload_n 1, 1) := by decide +kernel
theorem dX0_putVariant_16 : decode cX0_putVariant 16 = .ok (.getfield 35, 3) := by decide +kernel
theorem dX0_putVariant_19 : decode cX0_putVariant 19 = .ok (.iconst 2, 1) := by decide +kernel
theorem dX0_putVariant_20 : decode cX0_putVariant 20 = .ok (.invokevirtual 31, 3) := by decide +kernel
theorem dX0_putVariant_23 : decode cX0_putVariant 23 = .ok (.aload_n 0, 1) := by decide +kernel
theorem dX0_putVariant_24 : decode cX0_putVariant 24 = .ok (.aload_n 1, 1) := by decide +kernel
theorem dX0_putVariant_25 : decode cX0_putVariant 25 = .ok (.getfield 38, 3) := by decide +kernel
theorem dX0_putVariant_28 : decode cX0_putVariant 28 = .ok (.invokevirtual 22, 3) := by decide +kernel
theorem dX0_putVariant_31 : decode cX0_putVariant 31 = .ok (.iconst 0, 1) := by decide +kernel
theorem dX0_putVariant_32 : decode cX0_putVariant 32 = .ok (.istore_n 2, 1) := by decide +kernel
theorem dX0_putVariant_33 : decode cX0_putVariant 33 = .ok (.iload_n 2, 1) := by decide +kernel
theorem dX0_putVariant_34 : decode cX0_putVariant 34 = .ok (.aload_n 1, 1) := by decide +kernel
theorem dX0_putVariant_35 : decode cX0_putVariant 35 = .ok (.getfield 38, 3) := by decide +kernel
theorem dX0_putVariant_38 : decode cX0_putVariant 38 = .ok (.if_icmp .ge 25, 3) := by decide +kernel
theorem dX0_putVariant_41 : decode cX0_putVariant 41 = .ok (.aload_n 0, 1) := by decide +kernel
theorem dX0_putVariant_42 : decode cX0_putVariant 42 = .ok (.aload_n 1, 1) := by decide +kernel
theorem dX0_putVariant_43 : decode cX0_putVariant 43 = .ok (.getfield 41, 3) := by decide +kernel
theorem dX0_putVariant_46 : decode cX0_putVariant 46 = .ok (.iload_n 2, 1) := by decide +kernel
theorem dX0_putVariant_47 : decode cX0_putVariant 47 = .ok (.iaload, 1) := by decide +kernel
theorem dX0_putVariant_48 : decode cX0_putVariant 48 = .ok (.aload_n 1, 1) := by decide +kernel
theorem dX0_putVariant_49 : decode cX0_putVariant 49 = .ok (.getfield 44, 3) := by decide +kernel
theorem dX0_putVariant_52 : decode cX0_putVariant 52 = .ok (.iload_n 2, 1) := by decide +kernel
theorem dX0_putVariant_53 : decode cX0_putVariant 53 = .ok (.iaload, 1) := by decide +kernel
theorem dX0_putVariant_54 : decode cX0_putVariant 54 = .ok (.invokevirtual 47, 3) := by decide +kernel
theorem dX0_putVariant_57 : decode cX0_putVariant 57 = .ok (.iinc 2 1, 3) := by decide +kernel
theorem dX0_putVariant_60 : decode cX0_putVariant 60 = .ok (.goto (-27), 3) := by decide +kernel
theorem dX0_putVariant_63 : decode cX0_putVariant 63 = .ok (.aload_n 0, 1) := by decide +kernel
theorem dX0_putVariant_64 : decode cX0_putVariant 64 = .ok (.aload_n 1, 1) := by decide +kernel
theorem dX0_putVariant_65 : decode cX0_putVariant 65 = .ok (.getfield 50, 3) := by decide +kernel
theorem dX0_putVariant_68 : decode cX0_putVariant 68 = .ok (.iconst 0, 1) := by decide +kernel
theorem dX0_putVariant_69 : decode cX0_putVariant 69 = .ok (.aload_n 1, 1) := by decide +kernel
theorem dX0_putVariant_70 : decode cX0_putVariant 70 = .ok (.getfield 38, 3) := by decide +kernel
theorem dX0_putVariant_73 : decode cX0_putVariant 73 = .ok (.invokevirtual 53, 3) := by decide +kernel
theorem dX0_putVariant_76 : decode cX0_putVariant 76 = .ok (.iconst 0, 1) := by decide +kernel
theorem dX0_putVariant_77 : decode cX0_putVariant 77 = .ok (.istore_n 2, 1) := by decide +kernel
theorem dX0_putVariant_78 : decode cX0_putVariant 78 = .ok (.iload_n 2, 1) := by decide +kernel
theorem dX0_putVariant_79 : decode cX0_putVariant 79 = .ok (.iconst 2, 1) := by decide +kernel
theorem dX0_putVariant_80 : decode cX0_putVariant 80 = .ok (.if_icmp .ge 84, 3) := by decide +kernel
theorem dX0_putVariant_83 : decode cX0_putVariant 83 = .ok (.aload_n 0, 1) := by decide +kernel
theorem dX0_putVariant_84 : decode cX0_putVariant 84 = .ok (.bipush 33, 2) := by decide +kernel
theorem dX0_putVariant_86 : decode cX0_putVariant 86 = .ok (.invokevirtual 22, 3) := by decide +kernel
theorem dX0_putVariant_89 : decode cX0_putVariant 89 = .ok (.aload_n 1, 1) := by decide +kernel
theorem dX0_putVariant_90 : decode cX0_putVariant 90 = .ok (.getfield 57, 3) := by decide +kernel
theorem dX0_putVariant_93 : decode cX0_putVariant 93 = .ok (.iload_n 2, 1) := by decide +kernel
theorem dX0_putVariant_94 : decode cX0_putVariant 94 = .ok (.baload, 1) := by decide +kernel
theorem dX0_putVariant_95 : decode cX0_putVariant 95 = .ok (.ifCond .eq 7, 3) := by decide +kernel
theorem dX0_putVariant_98 : decode cX0_putVariant 98 = .ok (.iconst 1, 1) := by decide +kernel
theorem dX0_putVariant_99 : decode cX0_putVariant 99 = .ok (.goto 4, 3) := by decide +kernel
theorem dX0_putVariant_102 : decode cX0_putVariant 102 = .ok (.iconst 0, 1) := by decide +kernel
theorem dX0_putVariant_103 : decode cX0_putVariant 103 = .ok (.istore_n 3, 1) := by decide +kernel
theorem dX0_putVariant_104 : decode cX0_putVariant 104 = .ok (.aload_n 0, 1) := by decide +kernel
theorem dX0_putVariant_105 : decode cX0_putVariant 105 = .ok (.iconst 2, 1) := by decide +kernel
theorem dX0_putVariant_106 : decode cX0_putVariant 106 = .ok (.aload_n 1, 1) := by decide +kernel
theorem dX0_putVariant_107 : decode cX0_putVariant 107 = .ok (.getfield 61, 3) := by decide +kernel
theorem dX0_putVariant_110 : decode cX0_putVariant 110 = .ok (.iconst 2, 1) := by decide +kernel
theorem dX0_putVariant_111 : decode cX0_putVariant 111 = .ok (.iload_n 2, 1) := by decide +kernel
theorem dX0_putVariant_112 : decode cX0_putVariant 112 = .ok (.imul, 1) := by decide +kernel
theorem dX0_putVariant_113 : decode cX0_putVariant 113 = .ok (.iaload, 1) := by decide +kernel
theorem dX0_putVariant_114 : decode cX0_putVariant 114 = .ok (.iconst 1, 1) := by decide +kernel
theorem dX0_putVariant_115 : decode cX0_putVariant 115 = .ok (.iadd, 1) := by decide +kernel
theorem dX0_putVariant_116 : decode cX0_putVariant 116 = .ok (.imul, 1) := by decide +kernel
theorem dX0_putVariant_117 : decode cX0_putVariant 117 = .ok (.iload_n 3, 1) := by decide +kernel
theorem dX0_putVariant_118 : decode cX0_putVariant 118 = .ok (.iadd, 1) := by decide +kernel
theorem dX0_putVariant_119 : decode cX0_putVariant 119 = .ok (.invokevirtual 22, 3) := by decide +kernel
theorem dX0_putVariant_122 : decode cX0_putVariant 122 = .ok (.aload_n 0, 1) := by decide +kernel
theorem dX0_putVariant_123 : decode cX0_putVariant 123 = .ok (.iconst 2, 1) := by decide +kernel
theorem dX0_putVariant_124 : decode cX0_putVariant 124 = .ok (.aload_n 1, 1) := by decide +kernel
theorem dX0_putVariant_125 : decode cX0_putVariant 125 = .ok (.getfield 61, 3) := by decide +kernel
theorem dX0_putVariant_128 : decode cX0_putVariant 128 = .ok (.iconst 2, 1) := by decide +kernel
theorem dX0_putVariant_129 : decode cX0_putVariant 129 = .ok (.iload_n 2, 1) := by decide +kernel
theorem dX0_putVariant_130 : decode cX0_putVariant 130 = .ok (.imul, 1) := by decide +kernel
theorem dX0_putVariant_131 : decode cX0_putVariant 131 = .ok (.iconst 1, 1) := by decide +kernel
theorem dX0_putVariant_132 : decode cX0_putVariant 132 = .ok (.iadd, 1) := by decide +kernel
theorem dX0_putVariant_133 : decode cX0_putVariant 133 = .ok (.iaload, 1) := by decide +kernel
theorem dX0_putVariant_134 : decode cX0_putVariant 134 = .ok (.iconst 1, 1) := by decide +kernel
theorem dX0_putVariant_135 : decode cX0_putVariant 135 = .ok (.iadd, 1) := by decide +kernel
theorem dX0_putVariant_136 : decode cX0_putVariant 136 = .ok (.imul, 1) := by decide +kernel
theorem dX0_putVariant_137 : decode cX0_putVariant 137 = .ok (.iload_n 3, 1) := by decide +kernel
theorem dX0_putVariant_138 : decode cX0_putVariant 138 = .ok (.iadd, 1) := by decide +kernel
theorem dX0_putVariant_139 : decode cX0_putVariant 139 = .ok (.invokevirtual 22, 3) := by decide +kernel
theorem dX0_putVariant_142 : decode cX0_putVariant 142 = .ok (.aload_n 0, 1) := by decide +kernel
theorem dX0_putVariant_143 : decode cX0_putVariant 143 = .ok (.aload_n 1, 1) := by decide +kernel
theorem dX0_putVariant_144 : decode cX0_putVariant 144 = .ok (.getfield 64, 3) := by decide +kernel
theorem dX0_putVariant_147 : decode cX0_putVariant 147 = .ok (.bipush 10, 2) := by decide +kernel
theorem dX0_putVariant_149 : decode cX0_putVariant 149 = .ok (.iload_n 2, 1) := by decide +kernel
theorem dX0_putVariant_150 : decode cX0_putVariant 150 = .ok (.imul, 1) := by decide +kernel
theorem dX0_putVariant_151 : decode cX0_putVariant 151 = .ok (.aload_n 1, 1) := by decide +kernel
theorem dX0_putVariant_152 : decode cX0_putVariant 152 = .ok (.invokevirtual 67, 3) := by decide +kernel
theorem dX0_putVariant_155 : decode cX0_putVariant 155 = .ok (.invokevirtual 53, 3) := by decide +kernel
theorem dX0_putVariant_158 : decode cX0_putVariant 158 = .ok (.iinc 2 1, 3) := by decide +kernel
theorem dX0_putVariant_161 : decode cX0_putVariant 161 = .ok (.goto (-83), 3) := by decide +kernel
theorem dX0_putVariant_164 : decode cX0_putVariant 164 = .ok (.return_, 1) := by decide +kernel
theorem dX0_putAllele_0 : decode cX0_putAllele 0 = .ok (.aload_n 0, 1) := by decide +kernel
theorem dX0_putAllele_1 : decode cX0_putAllele 1 = .ok (.bipush 16, 2) := by decide +kernel
theorem dX0_putAllele_3 : decode cX0_putAllele 3 = .ok (.iload_n 2, 1) := by decide +kernel
theorem dX0_putAllele_4 : decode cX0_putAllele 4 = .ok (.imul, 1) := by decide +kernel
theorem dX0_putAllele_5 : decode cX0_putAllele 5 = .ok (.bipush 7, 2) := by decide +kernel
theorem dX0_putAllele_7 : decode cX0_putAllele 7 = .ok (.iadd, 1) := by decide +kernel
theorem dX0_putAllele_8 : decode cX0_putAllele 8 = .ok (.invokevirtual 22, 3) := by decide +kernel
theorem dX0_putAllele_11 : decode cX0_putAllele 11 = .ok (.iconst 0, 1) := by decide +kernel
theorem dX0_putAllele_12 : decode cX0_putAllele 12 = .ok (.istore_n 3, 1) := by decide +kernel
theorem dX0_putAllele_13 : decode cX0_putAllele 13 = .ok (.iload_n 3, 1) := by decide +kernel
theorem dX0_putAllele_14 : decode cX0_putAllele 14 = .ok (.iload_n 2, 1) := by decide +kernel
theorem dX0_putAllele_15 : decode cX0_putAllele 15 = .ok (.if_icmp .ge 24, 3) := by decide +kernel
theorem dX0_putAllele_18 : decode cX0_putAllele 18 = .ok (.aload_n 0, 1) := by decide +kernel
theorem dX0_putAllele_19 : decode cX0_putAllele 19 = .ok (.getstatic 71, 3) := by decide +kernel
theorem dX0_putAllele_22 : decode cX0_putAllele 22 = .ok (.iload_n 1, 1) := by decide +kernel
theorem dX0_putAllele_23 : decode cX0_putAllele 23 = .ok (.i2l, 1) := by decide +kernel
theorem dX0_putAllele_24 : decode cX0_putAllele 24 = .ok (.iload_n 2, 1) := by decide +kernel
theorem dX0_putAllele_25 : decode cX0_putAllele 25 = .ok (.iload_n 3, 1) := by decide +kernel
theorem dX0_putAllele_26 : decode cX0_putAllele 26 = .ok (.invokestatic 74, 3) := by decide +kernel
theorem dX0_putAllele_29 : decode cX0_putAllele 29 = .ok (.iaload, 1) := by decide +kernel
theorem dX0_putAllele_30 : decode cX0_putAllele 30 = .ok (.invokevirtual 22, 3) := by decide +kernel
theorem dX0_putAllele_33 : decode cX0_putAllele 33 = .ok (.iinc 3 1, 3) := by decide +kernel
theorem dX0_putAllele_36 : decode cX0_putAllele 36 = .ok (.goto (-23), 3) := by decide +kernel
theorem dX0_putAllele_39 : decode cX0_putAllele 39 = .ok (.return_, 1) := by decide +kernel
theorem dX0_putNumbers_0 : decode cX0_putNumbers 0 = .ok (.iconst 1, 1) := by decide +kernel
theorem dX0_putNumbers_1 : decode cX0_putNumbers 1 = .ok (.istore 4, 2) := by decide +kernel
theorem dX0_putNumbers_3 : decode cX0_putNumbers 3 = .ok (.iload_n 2, 1) := by decide +kernel
theorem dX0_putNumbers_4 : decode cX0_putNumbers 4 = .ok (.istore 5, 2) := by decide +kernel
theorem dX0_putNumbers_6 : decode cX0_putNumbers 6 = .ok (.iload 5, 2) := by decide +kernel
theorem dX0_putNumbers_8 : decode cX0_putNumbers 8 = .ok (.iload_n 2, 1) := by decide +kernel
theorem dX0_putNumbers_9 : decode cX0_putNumbers 9 = .ok (.iload_n 3, 1) := by decide +kernel
theorem dX0_putNumbers_10 : decode cX0_putNumbers 10 = .ok (.iadd, 1) := by decide +kernel
theorem dX0_putNumbers_11 : decode cX0_putNumbers 11 = .ok (.if_icmp .ge 21, 3) := by decide +kernel
theorem dX0_putNumbers_14 : decode cX0_putNumbers 14 = .ok (.aload_n 1, 1) := by decide +kernel
theorem dX0_putNumbers_15 : decode cX0_putNumbers 15 = .ok (.iload 5, 2) := by decide +kernel
theorem dX0_putNumbers_17 : decode cX0_putNumbers 17 = .ok (.iaload, 1) := by decide +kernel
theorem dX0_putNumbers_18 : decode cX0_putNumbers 18 = .ok (.bipush 127, 2) := by decide +kernel
theorem dX0_putNumbers_20 : decode cX0_putNumbers 20 = .ok (.if_icmp .le 6, 3) := by decide +kernel
theorem dX0_putNumbers_23 : decode cX0_putNumbers 23 = .ok (.iconst 2, 1) := by decide +kernel
theorem dX0_putNumbers_24 : decode cX0_putNumbers 24 = .ok (.istore 4, 2) := by decide +kernel
theorem dX0_putNumbers_26 : decode cX0_putNumbers 26 = .ok (.iinc 5 1, 3) := by decide +kernel
theorem dX0_putNumbers_29 : decode cX0_putNumbers 29 = .ok (.goto (-23), 3) := by decide +kernel
theorem dX0_putNumbers_32 : decode cX0_putNumbers 32 = .ok (.aload_n 0, 1) := by decide +kernel
theorem dX0_putNumbers_33 : decode cX0_putNumbers 33 = .ok (.bipush 16, 2) := by decide +kernel
theorem dX0_putNumbers_35 : decode cX0_putNumbers 35 = .ok (.iload_n 3, 1) := by decide +kernel
theorem dX0_putNumbers_36 : decode cX0_putNumbers 36 = .ok (.imul, 1) := by decide +kernel
theorem dX0_putNumbers_37 : decode cX0_putNumbers 37 = .ok (.iload 4, 2) := by decide +kernel
theorem dX0_putNumbers_39 : decode cX0_putNumbers 39 = .ok (.iadd, 1) := by decide +kernel
theorem dX0_putNumbers_40 : decode cX0_putNumbers 40 = .ok (.invokevirtual 22, 3) := by decide +kernel
theorem dX0_putNumbers_43 : decode cX0_putNumbers 43 = .ok (.iload_n 2, 1) := by decide +kernel
theorem dX0_putNumbers_44 : decode cX0_putNumbers 44 = .ok (.istore 5, 2) := by decide +kernel
theorem dX0_putNumbers_46 : decode cX0_putNumbers 46 = .ok (.iload 5, 2) := by decide +kernel
theorem dX0_putNumbers_48 : decode cX0_putNumbers 48 = .ok (.iload_n 2, 1) := by decide +kernel
theorem dX0_putNumbers_49 : decode cX0_putNumbers 49 = .ok (.iload_n 3, 1) := by decide +kernel
theorem dX0_putNumbers_50 : decode cX0_putNumbers 50 = .ok (.iadd, 1) := by decide +kernel
theorem dX0_putNumbers_51 : decode cX0_putNumbers 51 = .ok (.if_icmp .ge 19, 3) := by decide +kernel
theorem dX0_putNumbers_54 : decode cX0_putNumbers 54 = .ok (.aload_n 0, 1) := by decide +kernel
theorem dX0_putNumbers_55 : decode cX0_putNumbers 55 = .ok (.aload_n 1, 1) := by decide +kernel
theorem dX0_putNumbers_56 : decode cX0_putNumbers 56 = .ok (.iload 5, 2) := by decide +kernel
theorem dX0_putNumbers_58 : decode cX0_putNumbers 58 = .ok (.iaload, 1) := by decide +kernel
theorem dX0_putNumbers_59 : decode cX0_putNumbers 59 = .ok (.iload 4, 2) := by decide +kernel
theorem dX0_putNumbers_61 : decode cX0_putNumbers 61 = .ok (.invokevirtual 31, 3) := by decide +kernel
theorem dX0_putNumbers_64 : decode cX0_putNumbers 64 = .ok (.iinc 5 1, 3) := by decide +kernel
theorem dX0_putNumbers_67 : decode cX0_putNumbers 67 = .ok (.goto (-21), 3) := by decide +kernel
theorem dX0_putNumbers_70 : decode cX0_putNumbers 70 = .ok (.return_, 1) := by decide +kernel
theorem dX0_isSame_0 : decode cX0_isSame 0 = .ok (.aload_n 0, 1) := by decide +kernel
theorem dX0_isSame_1 : decode cX0_isSame 1 = .ok (.getfield 15, 3) := by decide +kernel
theorem dX0_isSame_4 : decode cX0_isSame 4 = .ok (.aload_n 1, 1) := by decide +kernel
theorem dX0_isSame_5 : decode cX0_isSame 5 = .ok (.getfield 15, 3) := by decide +kernel
theorem dX0_isSame_8 : decode cX0_isSame 8 = .ok (.if_icmp .eq 5, 3) := by decide +kernel
theorem dX0_isSame_11 : decode cX0_isSame 11 = .ok (.iconst 0, 1) := by decide +kernel
theorem dX0_isSame_12 : decode cX0_isSame 12 = .ok (.ireturn, 1) := by decide +kernel
theorem dX0_isSame_13 : decode cX0_isSame 13 = .ok (.iconst 0, 1) := by decide +kernel
theorem dX0_isSame_14 : decode cX0_isSame 14 = .ok (.istore_n 2, 1) := by decide +kernel
theorem dX0_isSame_15 : decode cX0_isSame 15 = .ok (.iload_n 2, 1) := by decide +kernel
theorem dX0_isSame_16 : decode cX0_isSame 16 = .ok (.aload_n 0, 1) := by decide +kernel
theorem dX0_isSame_17 : decode cX0_isSame 17 = .ok (.getfield 15, 3) := by decide +kernel
theorem dX0_isSame_20 : decode cX0_isSame 20 = .ok (.if_icmp .ge 26, 3) := by decide +kernel
theorem dX0_isSame_23 : decode cX0_isSame 23 = .ok (.aload_n 0, 1) := by decide +kernel
theorem dX0_isSame_24 : decode cX0_isSame 24 = .ok (.getfield 9, 3) := by decide +kernel
theorem dX0_isSame_27 : decode cX0_isSame 27 = .ok (.iload_n 2, 1) := by decide +kernel
theorem dX0_isSame_28 : decode cX0_isSame 28 = .ok (.iaload, 1) := by decide +kernel
theorem dX0_isSame_29 : decode cX0_isSame 29 = .ok (.aload_n 1, 1) := by decide +kernel
theorem dX0_isSame_30 : decode cX0_isSame 30 = .ok (.getfield 9, 3) := by decide +kernel
theorem dX0_isSame_33 : decode cX0_isSame 33 = .ok (.iload_n 2, 1) := by decide +kernel
theorem dX0_isSame_34 : decode cX0_isSame 34 = .ok (.iaload, 1) := by decide +kernel
theorem dX0_isSame_35 : decode cX0_isSame 35 = .ok (.if_icmp .eq 5, 3) := by decide +kernel
theorem dX0_isSame_38 : decode cX0_isSame 38 = .ok (.iconst 0, 1) := by decide +kernel
theorem dX0_isSame_39 : decode cX0_isSame 39 = .ok (.ireturn, 1) := by decide +kernel
theorem dX0_isSame_40 : decode cX0_isSame 40 = .ok (.iinc 2 1, 3) := by decide +kernel
theorem dX0_isSame_43 : decode cX0_isSame 43 = .ok (.goto (-28), 3) := by decide +kernel
theorem dX0_isSame_46 : decode cX0_isSame 46 = .ok (.iconst 1, 1) := by decide +kernel
theorem dX0_isSame_47 : decode cX0_isSame 47 = .ok (.ireturn, 1) := by decide +kernel
theorem dX0_take_0 : decode cX0_take 0 = .ok (.aload_n 0, 1) := by decide +kernel
theorem dX0_take_1 : decode cX0_take 1 = .ok (.getfield 19, 3) := by decide +kernel
theorem dX0_take_4 : decode cX0_take 4 = .ok (.aload_n 0, 1) := by decide +kernel
theorem dX0_take_5 : decode cX0_take 5 = .ok (.getfield 15, 3) := by decide +kernel
theorem dX0_take_8 : decode cX0_take 8 = .ok (.if_icmp .lt 5, 3) := by decide +kernel
theorem dX0_take_11 : decode cX0_take 11 = .ok (.iconst 0, 1) := by decide +kernel
theorem dX0_take_12 : decode cX0_take 12 = .ok (.ireturn, 1) := by decide +kernel
theorem dX0_take_13 : decode cX0_take 13 = .ok (.aload_n 0, 1) := by decide +kernel
theorem dX0_take_14 : decode cX0_take 14 = .ok (.dup, 1) := by decide +kernel
theorem dX0_take_15 : decode cX0_take 15 = .ok (.getfield 19, 3) := by decide +kernel
theorem dX0_take_18 : decode cX0_take 18 = .ok (.iconst 1, 1) := by decide +kernel
theorem dX0_take_19 : decode cX0_take 19 = .ok (.iadd, 1) := by decide +kernel
theorem dX0_take_20 : decode cX0_take 20 = .ok (.putfield 19, 3) := by decide +kernel
theorem dX0_take_23 : decode cX0_take 23 = .ok (.aload_n 0, 1) := by decide +kernel
theorem dX0_take_24 : decode cX0_take 24 = .ok (.getfield 9, 3) := by decide +kernel
theorem dX0_take_27 : decode cX0_take 27 = .ok (.aload_n 0, 1) := by decide +kernel
theorem dX0_take_28 : decode cX0_take 28 = .ok (.getfield 19, 3) := by decide +kernel
theorem dX0_take_31 : decode cX0_take 31 = .ok (.iconst 1, 1) := by decide +kernel
theorem dX0_take_32 : decode cX0_take 32 = .ok (.isub, 1) := by decide +kernel
theorem dX0_take_33 : decode cX0_take 33 = .ok (.iaload, 1) := by decide +kernel
theorem dX0_take_34 : decode cX0_take 34 = .ok (.ireturn, 1) := by decide +kernel
theorem dX0_takeNumber_0 : decode cX0_takeNumber 0 = .ok (.aload_n 0, 1) := by decide +kernel
theorem dX0_takeNumber_1 : decode cX0_takeNumber 1 = .ok (.invokevirtual 78, 3) := by decide +kernel
theorem dX0_takeNumber_4 : decode cX0_takeNumber 4 = .ok (.istore_n 2, 1) := by decide +kernel
theorem dX0_takeNumber_5 : decode cX0_takeNumber 5 = .ok (.iload_n 1, 1) := by decide +kernel
theorem dX0_takeNumber_6 : decode cX0_takeNumber 6 = .ok (.iconst 2, 1) := by decide +kernel
theorem dX0_takeNumber_7 : decode cX0_takeNumber 7 = .ok (.if_icmp .ne 16, 3) := by decide +kernel
theorem dX0_takeNumber_10 : decode cX0_takeNumber 10 = .ok (.iload_n 2, 1) := by decide +kernel
theorem dX0_takeNumber_11 : decode cX0_takeNumber 11 = .ok (.sipush 256, 3) := by decide +kernel
theorem dX0_takeNumber_14 : decode cX0_takeNumber 14 = .ok (.aload_n 0, 1) := by decide +kernel
theorem dX0_takeNumber_15 : decode cX0_takeNumber 15 = .ok (.invokevirtual 78, 3) := by decide +kernel
theorem dX0_takeNumber_18 : decode cX0_takeNumber 18 = .ok (.imul, 1) := by decide +kernel
theorem dX0_takeNumber_19 : decode cX0_takeNumber 19 = .ok (.iadd, 1) := by decide +kernel
theorem dX0_takeNumber_20 : decode cX0_takeNumber 20 = .ok (.goto 4, 3) := by decide +kernel
theorem dX0_takeNumber_23 : decode cX0_takeNumber 23 = .ok (.iload_n 2, 1) := by decide +kernel
theorem dX0_takeNumber_24 : decode cX0_takeNumber 24 = .ok (.ireturn, 1) := by decide +kernel
theorem dX0_takeVariant_0 : decode cX0_takeVariant 0 = .ok (.aload_n 0, 1) := by decide +kernel
theorem dX0_takeVariant_1 : decode cX0_takeVariant 1 = .ok (.iconst 0, 1) := by decide +kernel
theorem dX0_takeVariant_2 : decode cX0_takeVariant 2 = .ok (.putfield 19, 3) := by decide +kernel
theorem dX0_takeVariant_5 : decode cX0_takeVariant 5 = .ok (.aload_n 1, 1) := by decide +kernel
theorem dX0_takeVariant_6 : decode cX0_takeVariant 6 = .ok (.invokevirtual 81, 3) := by decide +kernel
theorem dX0_takeVariant_9 : decode cX0_takeVariant 9 = .ok (.aload_n 1, 1) := by decide +kernel
theorem dX0_takeVariant_10 : decode cX0_takeVariant 10 = .ok (.aload_n 0, 1) := by decide +kernel
theorem dX0_takeVariant_11 : decode cX0_takeVariant 11 = .ok (.iconst 2, 1) := by decide +kernel
theorem dX0_takeVariant_12 : decode cX0_takeVariant 12 = .ok (.invokevirtual 84, 3) := by decide +kernel
theorem dX0_takeVariant_15 : decode cX0_takeVariant 15 = .ok (.putfield 26, 3) := by decide +kernel
theorem dX0_takeVariant_18 : decode cX0_takeVariant 18 = .ok (.aload_n 1, 1) := by decide +kernel
theorem dX0_takeVariant_19 : decode cX0_takeVariant 19 = .ok (.aload_n 0, 1) := by decide +kernel
theorem dX0_takeVariant_20 : decode cX0_takeVariant 20 = .ok (.iconst 2, 1) := by decide +kernel
theorem dX0_takeVariant_21 : decode cX0_takeVariant 21 = .ok (.invokevirtual 84, 3) := by decide +kernel
theorem dX0_takeVariant_24 : decode cX0_takeVariant 24 = .ok (.putfield 35, 3) := by decide +kernel
theorem dX0_takeVariant_27 : decode cX0_takeVariant 27 = .ok (.aload_n 1, 1) := by decide +kernel
theorem dX0_takeVariant_28 : decode cX0_takeVariant 28 = .ok (.getfield 35, 3) := by decide +kernel
theorem dX0_takeVariant_31 : decode cX0_takeVariant 31 = .ok (.sipush 8000, 3) := by decide +kernel
theorem dX0_takeVariant_34 : decode cX0_takeVariant 34 = .ok (.if_icmp .gt 12, 3) := by decide +kernel
theorem dX0_takeVariant_37 : decode cX0_takeVariant 37 = .ok (.aload_n 0, 1) := by decide +kernel
theorem dX0_takeVariant_38 : decode cX0_takeVariant 38 = .ok (.aload_n 1, 1) := by decide +kernel
theorem dX0_takeVariant_39 : decode cX0_takeVariant 39 = .ok (.aload_n 2, 1) := by decide +kernel
theorem dX0_takeVariant_40 : decode cX0_takeVariant 40 = .ok (.invokevirtual 88, 3) := by decide +kernel
theorem dX0_takeVariant_43 : decode cX0_takeVariant 43 = .ok (.ifCond .ne 5, 3) := by decide +kernel
theorem dX0_takeVariant_46 : decode cX0_takeVariant 46 = .ok (.iconst 0, 1) := by decide +kernel
theorem dX0_takeVariant_47 : decode cX0_takeVariant 47 = .ok (.ireturn, 1) := by decide +kernel
theorem dX0_takeVariant_48 : decode cX0_takeVariant 48 = .ok (.aload_n 0, 1) := by decide +kernel
theorem dX0_takeVariant_49 : decode cX0_takeVariant 49 = .ok (.aload_n 1, 1) := by decide +kernel
theorem dX0_takeVariant_50 : decode cX0_takeVariant 50 = .ok (.getfield 50, 3) := by decide +kernel
theorem dX0_takeVariant_53 : decode cX0_takeVariant 53 = .ok (.iconst 0, 1) := by decide +kernel
theorem dX0_takeVariant_54 : decode cX0_takeVariant 54 = .ok (.aload_n 1, 1) := by decide +kernel
theorem dX0_takeVariant_55 : decode cX0_takeVariant 55 = .ok (.getfield 38, 3) := by decide +kernel
theorem dX0_takeVariant_58 : decode cX0_takeVariant 58 = .ok (.sipush 9999, 3) := by decide +kernel
theorem dX0_takeVariant_61 : decode cX0_takeVariant 61 = .ok (.invokevirtual 92, 3) := by decide +kernel
theorem dX0_takeVariant_64 : decode cX0_takeVariant 64 = .ok (.ifCond .ne 5, 3) := by decide +kernel
theorem dX0_takeVariant_67 : decode cX0_takeVariant 67 = .ok (.iconst 0, 1) := by decide +kernel
theorem dX0_takeVariant_68 : decode cX0_takeVariant 68 = .ok (.ireturn, 1) := by decide +kernel
theorem dX0_takeVariant_69 : decode cX0_takeVariant 69 = .ok (.iconst 0, 1) := by decide +kernel
theorem dX0_takeVariant_70 : decode cX0_takeVariant 70 = .ok (.istore_n 3, 1) := by decide +kernel
theorem dX0_takeVariant_71 : decode cX0_takeVariant 71 = .ok (.iload_n 3, 1) := by decide +kernel
theorem dX0_takeVariant_72 : decode cX0_takeVariant 72 = .ok (.iconst 2, 1) := by decide +kernel
theorem dX0_takeVariant_73 : decode cX0_takeVariant 73 = .ok (.if_icmp .ge 48, 3) := by decide +kernel
theorem dX0_takeVariant_76 : decode cX0_takeVariant 76 = .ok (.aload_n 0, 1) := by decide +kernel
theorem dX0_takeVariant_77 : decode cX0_takeVariant 77 = .ok (.aload_n 1, 1) := by decide +kernel
theorem dX0_takeVariant_78 : decode cX0_takeVariant 78 = .ok (.iload_n 3, 1) := by decide +kernel
theorem dX0_takeVariant_79 : decode cX0_takeVariant 79 = .ok (.invokevirtual 96, 3) := by decide +kernel
theorem dX0_takeVariant_82 : decode cX0_takeVariant 82 = .ok (.ifCond .ne 5, 3) := by decide +kernel
theorem dX0_takeVariant_85 : decode cX0_takeVariant 85 = .ok (.iconst 0, 1) := by decide +kernel
theorem dX0_takeVariant_86 : decode cX0_takeVariant 86 = .ok (.ireturn, 1) := by decide +kernel
theorem dX0_takeVariant_87 : decode cX0_takeVariant 87 = .ok (.bipush 10, 2) := by decide +kernel
theorem dX0_takeVariant_89 : decode cX0_takeVariant 89 = .ok (.iload_n 3, 1) := by decide +kernel
theorem dX0_takeVariant_90 : decode cX0_takeVariant 90 = .ok (.imul, 1) := by decide +kernel
theorem dX0_takeVariant_91 : decode cX0_takeVariant 91 = .ok (.istore 4, 2) := by decide +kernel
theorem dX0_takeVariant_93 : decode cX0_takeVariant 93 = .ok (.aload_n 0, 1) := by decide +kernel
theorem dX0_takeVariant_94 : decode cX0_takeVariant 94 = .ok (.aload_n 1, 1) := by decide +kernel
theorem dX0_takeVariant_95 : decode cX0_takeVariant 95 = .ok (.getfield 64, 3) := by decide +kernel
theorem dX0_takeVariant_98 : decode cX0_takeVariant 98 = .ok (.iload 4, 2) := by decide +kernel
theorem dX0_takeVariant_100 : decode cX0_takeVariant 100 = .ok (.aload_n 1, 1) := by decide +kernel
theorem dX0_takeVariant_101 : decode cX0_takeVariant 101 = .ok (.invokevirtual 67, 3) := by decide +kernel
theorem dX0_takeVariant_104 : decode cX0_takeVariant 104 = .ok (.sipush 999, 3) := by decide +kernel
theorem dX0_takeVariant_107 : decode cX0_takeVariant 107 = .ok (.invokevirtual 92, 3) := by decide +kernel
theorem dX0_takeVariant_110 : decode cX0_takeVariant 110 = .ok (.ifCond .ne 5, 3) := by decide +kernel
theorem dX0_takeVariant_113 : decode cX0_takeVariant 113 = .ok (.iconst 0, 1) := by decide +kernel
theorem dX0_takeVariant_114 : decode cX0_takeVariant 114 = .ok (.ireturn, 1) := by decide +kernel
theorem dX0_takeVariant_115 : decode cX0_takeVariant 115 = .ok (.iinc 3 1, 3) := by decide +kernel
theorem dX0_takeVariant_118 : decode cX0_takeVariant 118 = .ok (.goto (-47), 3) := by decide +kernel
theorem dX0_takeVariant_121 : decode cX0_takeVariant 121 = .ok (.iconst 1, 1) := by decide +kernel
theorem dX0_takeVariant_122 : decode cX0_takeVariant 122 = .ok (.ireturn, 1) := by decide +kernel
theorem dX0_takeAlleles_0 : decode cX0_takeAlleles 0 = .ok (.aload_n 0, 1) := by decide +kernel
theorem dX0_takeAlleles_1 : decode cX0_takeAlleles 1 = .ok (.invokevirtual 78, 3) := by decide +kernel
theorem dX0_takeAlleles_4 : decode cX0_takeAlleles 4 = .ok (.istore_n 3, 1) := by decide +kernel
theorem dX0_takeAlleles_5 : decode cX0_takeAlleles 5 = .ok (.iload_n 3, 1) := by decide +kernel
theorem dX0_takeAlleles_6 : decode cX0_takeAlleles 6 = .ok (.iconst 2, 1) := by decide +kernel
theorem dX0_takeAlleles_7 : decode cX0_takeAlleles 7 = .ok (.if_icmp .lt 8, 3) := by decide +kernel
theorem dX0_takeAlleles_10 : decode cX0_takeAlleles 10 = .ok (.iload_n 3, 1) := by decide +kernel
theorem dX0_takeAlleles_11 : decode cX0_takeAlleles 11 = .ok (.iconst 4, 1) := by decide +kernel
theorem dX0_takeAlleles_12 : decode cX0_takeAlleles 12 = .ok (.if_icmp .le 5, 3) := by decide +kernel
theorem dX0_takeAlleles_15 : decode cX0_takeAlleles 15 = .ok (.iconst 0, 1) := by decide +kernel
theorem dX0_takeAlleles_16 : decode cX0_takeAlleles 16 = .ok (.ireturn, 1) := by decide +kernel
theorem dX0_takeAlleles_17 : decode cX0_takeAlleles 17 = .ok (.iconst 0, 1) := by decide +kernel
theorem dX0_takeAlleles_18 : decode cX0_takeAlleles 18 = .ok (.istore 4, 2) := by decide +kernel
theorem dX0_takeAlleles_20 : decode cX0_takeAlleles 20 = .ok (.iload 4, 2) := by decide +kernel
theorem dX0_takeAlleles_22 : decode cX0_takeAlleles 22 = .ok (.iload_n 3, 1) := by decide +kernel
theorem dX0_takeAlleles_23 : decode cX0_takeAlleles 23 = .ok (.if_icmp .ge 61, 3) := by decide +kernel
theorem dX0_takeAlleles_26 : decode cX0_takeAlleles 26 = .ok (.aload_n 0, 1) := by decide +kernel
theorem dX0_takeAlleles_27 : decode cX0_takeAlleles 27 = .ok (.invokevirtual 78, 3) := by decide +kernel
theorem dX0_takeAlleles_30 : decode cX0_takeAlleles 30 = .ok (.iconst 4, 1) := by decide +kernel
theorem dX0_takeAlleles_31 : decode cX0_takeAlleles 31 = .ok (.ishr, 1) := by decide +kernel
theorem dX0_takeAlleles_32 : decode cX0_takeAlleles 32 = .ok (.istore 5, 2) := by decide +kernel
theorem dX0_takeAlleles_34 : decode cX0_takeAlleles 34 = .ok (.iload 5, 2) := by decide +kernel
theorem dX0_takeAlleles_36 : decode cX0_takeAlleles 36 = .ok (.iconst 1, 1) := by decide +kernel
theorem dX0_takeAlleles_37 : decode cX0_takeAlleles 37 = .ok (.if_icmp .lt 10, 3) := by decide +kernel
theorem dX0_takeAlleles_40 : decode cX0_takeAlleles 40 = .ok (.iload 5, 2) := by decide +kernel
theorem dX0_takeAlleles_42 : decode cX0_takeAlleles 42 = .ok (.bipush 8, 2) := by decide +kernel
theorem dX0_takeAlleles_44 : decode cX0_takeAlleles 44 = .ok (.if_icmp .le 5, 3) := by decide +kernel
theorem dX0_takeAlleles_47 : decode cX0_takeAlleles 47 = .ok (.iconst 0, 1) := by decide +kernel
theorem dX0_takeAlleles_48 : decode cX0_takeAlleles 48 = .ok (.ireturn, 1) := by decide +kernel
theorem dX0_takeAlleles_49 : decode cX0_takeAlleles 49 = .ok (.aload_n 0, 1) := by decide +kernel
theorem dX0_takeAlleles_50 : decode cX0_takeAlleles 50 = .ok (.iload 5, 2) := by decide +kernel
theorem dX0_takeAlleles_52 : decode cX0_takeAlleles 52 = .ok (.invokevirtual 100, 3) := by decide +kernel
theorem dX0_takeAlleles_55 : decode cX0_takeAlleles 55 = .ok (.istore 6, 2) := by decide +kernel
theorem dX0_takeAlleles_57 : decode cX0_takeAlleles 57 = .ok (.aload_n 1, 1) := by decide +kernel
theorem dX0_takeAlleles_58 : decode cX0_takeAlleles 58 = .ok (.iload 6, 2) := by decide +kernel
theorem dX0_takeAlleles_60 : decode cX0_takeAlleles 60 = .ok (.iload 5, 2) := by decide +kernel
theorem dX0_takeAlleles_62 : decode cX0_takeAlleles 62 = .ok (.invokevirtual 103, 3) := by decide +kernel
theorem dX0_takeAlleles_65 : decode cX0_takeAlleles 65 = .ok (.ifCond .lt 5, 3) := by decide +kernel
theorem dX0_takeAlleles_68 : decode cX0_takeAlleles 68 = .ok (.iconst 0, 1) := by decide +kernel
theorem dX0_takeAlleles_69 : decode cX0_takeAlleles 69 = .ok (.ireturn, 1) := by decide +kernel
theorem dX0_takeAlleles_70 : decode cX0_takeAlleles 70 = .ok (.aload_n 1, 1) := by decide +kernel
theorem dX0_takeAlleles_71 : decode cX0_takeAlleles 71 = .ok (.iload 6, 2) := by decide +kernel
theorem dX0_takeAlleles_73 : decode cX0_takeAlleles 73 = .ok (.iload 5, 2) := by decide +kernel
theorem dX0_takeAlleles_75 : decode cX0_takeAlleles 75 = .ok (.invokevirtual 107, 3) := by decide +kernel
theorem dX0_takeAlleles_78 : decode cX0_takeAlleles 78 = .ok (.iinc 4 1, 3) := by decide +kernel
theorem dX0_takeAlleles_81 : decode cX0_takeAlleles 81 = .ok (.goto (-61), 3) := by decide +kernel
theorem dX0_takeAlleles_84 : decode cX0_takeAlleles 84 = .ok (.aload_n 1, 1) := by decide +kernel
theorem dX0_takeAlleles_85 : decode cX0_takeAlleles 85 = .ok (.getfield 26, 3) := by decide +kernel
theorem dX0_takeAlleles_88 : decode cX0_takeAlleles 88 = .ok (.istore 4, 2) := by decide +kernel
theorem dX0_takeAlleles_90 : decode cX0_takeAlleles 90 = .ok (.aload_n 1, 1) := by decide +kernel
theorem dX0_takeAlleles_91 : decode cX0_takeAlleles 91 = .ok (.getfield 44, 3) := by decide +kernel
theorem dX0_takeAlleles_94 : decode cX0_takeAlleles 94 = .ok (.iconst 0, 1) := by decide +kernel
theorem dX0_takeAlleles_95 : decode cX0_takeAlleles 95 = .ok (.iaload, 1) := by decide +kernel
theorem dX0_takeAlleles_96 : decode cX0_takeAlleles 96 = .ok (.istore 5, 2) := by decide +kernel
theorem dX0_takeAlleles_98 : decode cX0_takeAlleles 98 = .ok (.aload_n 2, 1) := by decide +kernel
theorem dX0_takeAlleles_99 : decode cX0_takeAlleles 99 = .ok (.iload 4, 2) := by decide +kernel
theorem dX0_takeAlleles_101 : decode cX0_takeAlleles 101 = .ok (.iload 5, 2) := by decide +kernel
theorem dX0_takeAlleles_103 : decode cX0_takeAlleles 103 = .ok (.invokevirtual 110, 3) := by decide +kernel
theorem dX0_takeAlleles_106 : decode cX0_takeAlleles 106 = .ok (.ifCond .eq 24, 3) := by decide +kernel
theorem dX0_takeAlleles_109 : decode cX0_takeAlleles 109 = .ok (.aload_n 2, 1) := by decide +kernel
theorem dX0_takeAlleles_110 : decode cX0_takeAlleles 110 = .ok (.iload 4, 2) := by decide +kernel
theorem dX0_takeAlleles_112 : decode cX0_takeAlleles 112 = .ok (.iload 5, 2) := by decide +kernel
theorem dX0_takeAlleles_114 : decode cX0_takeAlleles 114 = .ok (.invokevirtual 116, 3) := by decide +kernel
theorem dX0_takeAlleles_117 : decode cX0_takeAlleles 117 = .ok (.aload_n 1, 1) := by decide +kernel
theorem dX0_takeAlleles_118 : decode cX0_takeAlleles 118 = .ok (.getfield 41, 3) := by decide +kernel
theorem dX0_takeAlleles_121 : decode cX0_takeAlleles 121 = .ok (.iconst 0, 1) := by decide +kernel
theorem dX0_takeAlleles_122 : decode cX0_takeAlleles 122 = .ok (.iaload, 1) := by decide +kernel
theorem dX0_takeAlleles_123 : decode cX0_takeAlleles 123 = .ok (.if_icmp .ne 7, 3) := by decide +kernel
theorem dX0_takeAlleles_126 : decode cX0_takeAlleles 126 = .ok (.iconst 1, 1) := by decide +kernel
theorem dX0_takeAlleles_127 : decode cX0_takeAlleles 127 = .ok (.goto 4, 3) := by decide +kernel
theorem dX0_takeAlleles_130 : decode cX0_takeAlleles 130 = .ok (.iconst 0, 1) := by decide +kernel
theorem dX0_takeAlleles_131 : decode cX0_takeAlleles 131 = .ok (.ireturn, 1) := by decide +kernel
theorem dX0_takeBases_0 : decode cX0_takeBases 0 = .ok (.iconst 0, 1) := by decide +kernel
theorem dX0_takeBases_1 : decode cX0_takeBases 1 = .ok (.istore_n 2, 1) := by decide +kernel
theorem dX0_takeBases_2 : decode cX0_takeBases 2 = .ok (.iconst 0, 1) := by decide +kernel
theorem dX0_takeBases_3 : decode cX0_takeBases 3 = .ok (.istore_n 3, 1) := by decide +kernel
theorem dX0_takeBases_4 : decode cX0_takeBases 4 = .ok (.iload_n 3, 1) := by decide +kernel
theorem dX0_takeBases_5 : decode cX0_takeBases 5 = .ok (.iload_n 1, 1) := by decide +kernel
theorem dX0_takeBases_6 : decode cX0_takeBases 6 = .ok (.if_icmp .ge 58, 3) := by decide +kernel
theorem dX0_takeBases_9 : decode cX0_takeBases 9 = .ok (.aload_n 0, 1) := by decide +kernel
theorem dX0_takeBases_10 : decode cX0_takeBases 10 = .ok (.invokevirtual 78, 3) := by decide +kernel
theorem dX0_takeBases_13 : decode cX0_takeBases 13 = .ok (.istore 4, 2) := by decide +kernel
theorem dX0_takeBases_15 : decode cX0_takeBases 15 = .ok (.iconst 0, 1) := by decide +kernel
theorem dX0_takeBases_16 : decode cX0_takeBases 16 = .ok (.istore 5, 2) := by decide +kernel
theorem dX0_takeBases_18 : decode cX0_takeBases 18 = .ok (.iconst 1, 1) := by decide +kernel
theorem dX0_takeBases_19 : decode cX0_takeBases 19 = .ok (.istore 6, 2) := by decide +kernel
theorem dX0_takeBases_21 : decode cX0_takeBases 21 = .ok (.iload 6, 2) := by decide +kernel
theorem dX0_takeBases_23 : decode cX0_takeBases 23 = .ok (.getstatic 71, 3) := by decide +kernel
theorem dX0_takeBases_26 : decode cX0_takeBases 26 = .ok (.arraylength, 1) := by decide +kernel
theorem dX0_takeBases_27 : decode cX0_takeBases 27 = .ok (.if_icmp .ge 24, 3) := by decide +kernel
theorem dX0_takeBases_30 : decode cX0_takeBases 30 = .ok (.getstatic 71, 3) := by decide +kernel
theorem dX0_takeBases_33 : decode cX0_takeBases 33 = .ok (.iload 6, 2) := by decide +kernel
theorem dX0_takeBases_35 : decode cX0_takeBases 35 = .ok (.iaload, 1) := by decide +kernel
theorem dX0_takeBases_36 : decode cX0_takeBases 36 = .ok (.iload 4, 2) := by decide +kernel
theorem dX0_takeBases_38 : decode cX0_takeBases 38 = .ok (.if_icmp .ne 7, 3) := by decide +kernel
theorem dX0_takeBases_41 : decode cX0_takeBases 41 = .ok (.iload 6, 2) := by decide +kernel
theorem dX0_takeBases_43 : decode cX0_takeBases 43 = .ok (.istore 5, 2) := by decide +kernel
theorem dX0_takeBases_45 : decode cX0_takeBases 45 = .ok (.iinc 6 1, 3) := by decide +kernel
theorem dX0_takeBases_48 : decode cX0_takeBases 48 = .ok (.goto (-27), 3) := by decide +kernel
theorem dX0_takeBases_51 : decode cX0_takeBases 51 = .ok (.iload_n 2, 1) := by decide +kernel
theorem dX0_takeBases_52 : decode cX0_takeBases 52 = .ok (.iconst 2, 1) := by decide +kernel
theorem dX0_takeBases_53 : decode cX0_takeBases 53 = .ok (.ishl, 1) := by decide +kernel
theorem dX0_takeBases_54 : decode cX0_takeBases 54 = .ok (.iload 5, 2) := by decide +kernel
theorem dX0_takeBases_56 : decode cX0_takeBases 56 = .ok (.ior, 1) := by decide +kernel
theorem dX0_takeBases_57 : decode cX0_takeBases 57 = .ok (.istore_n 2, 1) := by decide +kernel
theorem dX0_takeBases_58 : decode cX0_takeBases 58 = .ok (.iinc 3 1, 3) := by decide +kernel
theorem dX0_takeBases_61 : decode cX0_takeBases 61 = .ok (.goto (-57), 3) := by decide +kernel
theorem dX0_takeBases_64 : decode cX0_takeBases 64 = .ok (.iload_n 2, 1) := by decide +kernel
theorem dX0_takeBases_65 : decode cX0_takeBases 65 = .ok (.ireturn, 1) := by decide +kernel
theorem dX0_takeGenotype_0 : decode cX0_takeGenotype 0 = .ok (.aload_n 0, 1) := by decide +kernel
theorem dX0_takeGenotype_1 : decode cX0_takeGenotype 1 = .ok (.invokevirtual 78, 3) := by decide +kernel
theorem dX0_takeGenotype_4 : decode cX0_takeGenotype 4 = .ok (.pop, 1) := by decide +kernel
theorem dX0_takeGenotype_5 : decode cX0_takeGenotype 5 = .ok (.aload_n 0, 1) := by decide +kernel
theorem dX0_takeGenotype_6 : decode cX0_takeGenotype 6 = .ok (.invokevirtual 78, 3) := by decide +kernel
theorem dX0_takeGenotype_9 : decode cX0_takeGenotype 9 = .ok (.istore_n 3, 1) := by decide +kernel
theorem dX0_takeGenotype_10 : decode cX0_takeGenotype 10 = .ok (.aload_n 0, 1) := by decide +kernel
theorem dX0_takeGenotype_11 : decode cX0_takeGenotype 11 = .ok (.invokevirtual 78, 3) := by decide +kernel
theorem dX0_takeGenotype_14 : decode cX0_takeGenotype 14 = .ok (.istore 4, 2) := by decide +kernel
theorem dX0_takeGenotype_16 : decode cX0_takeGenotype 16 = .ok (.aload_n 1, 1) := by decide +kernel
theorem dX0_takeGenotype_17 : decode cX0_takeGenotype 17 = .ok (.getfield 61, 3) := by decide +kernel
theorem dX0_takeGenotype_20 : decode cX0_takeGenotype 20 = .ok (.iconst 2, 1) := by decide +kernel
theorem dX0_takeGenotype_21 : decode cX0_takeGenotype 21 = .ok (.iload_n 2, 1) := by decide +kernel
theorem dX0_takeGenotype_22 : decode cX0_takeGenotype 22 = .ok (.imul, 1) := by decide +kernel
theorem dX0_takeGenotype_23 : decode cX0_takeGenotype 23 = .ok (.iload_n 3, 1) := by decide +kernel
theorem dX0_takeGenotype_24 : decode cX0_takeGenotype 24 = .ok (.iconst 1, 1) := by decide +kernel
theorem dX0_takeGenotype_25 : decode cX0_takeGenotype 25 = .ok (.ishr, 1) := by decide +kernel
theorem dX0_takeGenotype_26 : decode cX0_takeGenotype 26 = .ok (.iconst 1, 1) := by decide +kernel
theorem dX0_takeGenotype_27 : decode cX0_takeGenotype 27 = .ok (.isub, 1) := by decide +kernel
theorem dX0_takeGenotype_28 : decode cX0_takeGenotype 28 = .ok (.iastore, 1) := by decide +kernel
theorem dX0_takeGenotype_29 : decode cX0_takeGenotype 29 = .ok (.aload_n 1, 1) := by decide +kernel
theorem dX0_takeGenotype_30 : decode cX0_takeGenotype 30 = .ok (.getfield 61, 3) := by decide +kernel
theorem dX0_takeGenotype_33 : decode cX0_takeGenotype 33 = .ok (.iconst 2, 1) := by decide +kernel
theorem dX0_takeGenotype_34 : decode cX0_takeGenotype 34 = .ok (.iload_n 2, 1) := by decide +kernel
theorem dX0_takeGenotype_35 : decode cX0_takeGenotype 35 = .ok (.imul, 1) := by decide +kernel
theorem dX0_takeGenotype_36 : decode cX0_takeGenotype 36 = .ok (.iconst 1, 1) := by decide +kernel
theorem dX0_takeGenotype_37 : decode cX0_takeGenotype 37 = .ok (.iadd, 1) := by decide +kernel
theorem dX0_takeGenotype_38 : decode cX0_takeGenotype 38 = .ok (.iload 4, 2) := by decide +kernel
theorem dX0_takeGenotype_40 : decode cX0_takeGenotype 40 = .ok (.iconst 1, 1) := by decide +kernel
theorem dX0_takeGenotype_41 : decode cX0_takeGenotype 41 = .ok (.ishr, 1) := by decide +kernel
theorem dX0_takeGenotype_42 : decode cX0_takeGenotype 42 = .ok (.iconst 1, 1) := by decide +kernel
theorem dX0_takeGenotype_43 : decode cX0_takeGenotype 43 = .ok (.isub, 1) := by decide +kernel
theorem dX0_takeGenotype_44 : decode cX0_takeGenotype 44 = .ok (.iastore, 1) := by decide +kernel
theorem dX0_takeGenotype_45 : decode cX0_takeGenotype 45 = .ok (.aload_n 1, 1) := by decide +kernel
theorem dX0_takeGenotype_46 : decode cX0_takeGenotype 46 = .ok (.getfield 57, 3) := by decide +kernel
theorem dX0_takeGenotype_49 : decode cX0_takeGenotype 49 = .ok (.iload_n 2, 1) := by decide +kernel
theorem dX0_takeGenotype_50 : decode cX0_takeGenotype 50 = .ok (.iload_n 3, 1) := by decide +kernel
theorem dX0_takeGenotype_51 : decode cX0_takeGenotype 51 = .ok (.iconst 1, 1) := by decide +kernel
theorem dX0_takeGenotype_52 : decode cX0_takeGenotype 52 = .ok (.iand, 1) := by decide +kernel
theorem dX0_takeGenotype_53 : decode cX0_takeGenotype 53 = .ok (.iconst 1, 1) := by decide +kernel
theorem dX0_takeGenotype_54 : decode cX0_takeGenotype 54 = .ok (.if_icmp .ne 7, 3) := by decide +kernel
theorem dX0_takeGenotype_57 : decode cX0_takeGenotype 57 = .ok (.iconst 1, 1) := by decide +kernel
theorem dX0_takeGenotype_58 : decode cX0_takeGenotype 58 = .ok (.goto 4, 3) := by decide +kernel
theorem dX0_takeGenotype_61 : decode cX0_takeGenotype 61 = .ok (.iconst 0, 1) := by decide +kernel
theorem dX0_takeGenotype_62 : decode cX0_takeGenotype 62 = .ok (.bastore, 1) := by decide +kernel
theorem dX0_takeGenotype_63 : decode cX0_takeGenotype 63 = .ok (.aload_n 1, 1) := by decide +kernel
theorem dX0_takeGenotype_64 : decode cX0_takeGenotype 64 = .ok (.iload_n 3, 1) := by decide +kernel
theorem dX0_takeGenotype_65 : decode cX0_takeGenotype 65 = .ok (.iconst 1, 1) := by decide +kernel
theorem dX0_takeGenotype_66 : decode cX0_takeGenotype 66 = .ok (.ishr, 1) := by decide +kernel
theorem dX0_takeGenotype_67 : decode cX0_takeGenotype 67 = .ok (.iconst 1, 1) := by decide +kernel
theorem dX0_takeGenotype_68 : decode cX0_takeGenotype 68 = .ok (.isub, 1) := by decide +kernel
theorem dX0_takeGenotype_69 : decode cX0_takeGenotype 69 = .ok (.invokevirtual 118, 3) := by decide +kernel
theorem dX0_takeGenotype_72 : decode cX0_takeGenotype 72 = .ok (.ifCond .eq 20, 3) := by decide +kernel
theorem dX0_takeGenotype_75 : decode cX0_takeGenotype 75 = .ok (.aload_n 1, 1) := by decide +kernel
theorem dX0_takeGenotype_76 : decode cX0_takeGenotype 76 = .ok (.iload 4, 2) := by decide +kernel
theorem dX0_takeGenotype_78 : decode cX0_takeGenotype 78 = .ok (.iconst 1, 1) := by decide +kernel
theorem dX0_takeGenotype_79 : decode cX0_takeGenotype 79 = .ok (.ishr, 1) := by decide +kernel
theorem dX0_takeGenotype_80 : decode cX0_takeGenotype 80 = .ok (.iconst 1, 1) := by decide +kernel
theorem dX0_takeGenotype_81 : decode cX0_takeGenotype 81 = .ok (.isub, 1) := by decide +kernel
theorem dX0_takeGenotype_82 : decode cX0_takeGenotype 82 = .ok (.invokevirtual 118, 3) := by decide +kernel
theorem dX0_takeGenotype_85 : decode cX0_takeGenotype 85 = .ok (.ifCond .eq 7, 3) := by decide +kernel
theorem dX0_takeGenotype_88 : decode cX0_takeGenotype 88 = .ok (.iconst 1, 1) := by decide +kernel
theorem dX0_takeGenotype_89 : decode cX0_takeGenotype 89 = .ok (.goto 4, 3) := by decide +kernel
theorem dX0_takeGenotype_92 : decode cX0_takeGenotype 92 = .ok (.iconst 0, 1) := by decide +kernel
theorem dX0_takeGenotype_93 : decode cX0_takeGenotype 93 = .ok (.ireturn, 1) := by decide +kernel
theorem dX0_takeNumbers_0 : decode cX0_takeNumbers 0 = .ok (.aload_n 0, 1) := by decide +kernel
theorem dX0_takeNumbers_1 : decode cX0_takeNumbers 1 = .ok (.invokevirtual 78, 3) := by decide +kernel
theorem dX0_takeNumbers_4 : decode cX0_takeNumbers 4 = .ok (.bipush 15, 2) := by decide +kernel
theorem dX0_takeNumbers_6 : decode cX0_takeNumbers 6 = .ok (.iand, 1) := by decide +kernel
theorem dX0_takeNumbers_7 : decode cX0_takeNumbers 7 = .ok (.istore 5, 2) := by decide +kernel
theorem dX0_takeNumbers_9 : decode cX0_takeNumbers 9 = .ok (.iload_n 2, 1) := by decide +kernel
theorem dX0_takeNumbers_10 : decode cX0_takeNumbers 10 = .ok (.istore 6, 2) := by decide +kernel
theorem dX0_takeNumbers_12 : decode cX0_takeNumbers 12 = .ok (.iload 6, 2) := by decide +kernel
theorem dX0_takeNumbers_14 : decode cX0_takeNumbers 14 = .ok (.iload_n 2, 1) := by decide +kernel
theorem dX0_takeNumbers_15 : decode cX0_takeNumbers 15 = .ok (.iload_n 3, 1) := by decide +kernel
theorem dX0_takeNumbers_16 : decode cX0_takeNumbers 16 = .ok (.iadd, 1) := by decide +kernel
theorem dX0_takeNumbers_17 : decode cX0_takeNumbers 17 = .ok (.if_icmp .ge 30, 3) := by decide +kernel
theorem dX0_takeNumbers_20 : decode cX0_takeNumbers 20 = .ok (.aload_n 1, 1) := by decide +kernel
theorem dX0_takeNumbers_21 : decode cX0_takeNumbers 21 = .ok (.iload 6, 2) := by decide +kernel
theorem dX0_takeNumbers_23 : decode cX0_takeNumbers 23 = .ok (.aload_n 0, 1) := by decide +kernel
theorem dX0_takeNumbers_24 : decode cX0_takeNumbers 24 = .ok (.iload 5, 2) := by decide +kernel
theorem dX0_takeNumbers_26 : decode cX0_takeNumbers 26 = .ok (.invokevirtual 84, 3) := by decide +kernel
theorem dX0_takeNumbers_29 : decode cX0_takeNumbers 29 = .ok (.iastore, 1) := by decide +kernel
theorem dX0_takeNumbers_30 : decode cX0_takeNumbers 30 = .ok (.aload_n 1, 1) := by decide +kernel
theorem dX0_takeNumbers_31 : decode cX0_takeNumbers 31 = .ok (.iload 6, 2) := by decide +kernel
theorem dX0_takeNumbers_33 : decode cX0_takeNumbers 33 = .ok (.iaload, 1) := by decide +kernel
theorem dX0_takeNumbers_34 : decode cX0_takeNumbers 34 = .ok (.iload 4, 2) := by decide +kernel
theorem dX0_takeNumbers_36 : decode cX0_takeNumbers 36 = .ok (.if_icmp .le 5, 3) := by decide +kernel
theorem dX0_takeNumbers_39 : decode cX0_takeNumbers 39 = .ok (.iconst 0, 1) := by decide +kernel
theorem dX0_takeNumbers_40 : decode cX0_takeNumbers 40 = .ok (.ireturn, 1) := by decide +kernel
theorem dX0_takeNumbers_41 : decode cX0_takeNumbers 41 = .ok (.iinc 6 1, 3) := by decide +kernel
theorem dX0_takeNumbers_44 : decode cX0_takeNumbers 44 = .ok (.goto (-32), 3) := by decide +kernel
theorem dX0_takeNumbers_47 : decode cX0_takeNumbers 47 = .ok (.iconst 1, 1) := by decide +kernel
theorem dX0_takeNumbers_48 : decode cX0_takeNumbers 48 = .ok (.ireturn, 1) := by decide +kernel
theorem dX1_init_0 : decode cX1_init 0 = .ok (.aload_n 0, 1) := by decide +kernel
theorem dX1_init_1 : decode cX1_init 1 = .ok (.invokespecial 3, 3) := by decide +kernel
theorem dX1_init_4 : decode cX1_init 4 = .ok (.aload_n 0, 1) := by decide +kernel
theorem dX1_init_5 : decode cX1_init 5 = .ok (.new 9, 3) := by decide +kernel
theorem dX1_init_8 : decode cX1_init 8 = .ok (.dup, 1) := by decide +kernel
theorem dX1_init_9 : decode cX1_init 9 = .ok (.invokespecial 11, 3) := by decide +kernel
theorem dX1_init_12 : decode cX1_init 12 = .ok (.putfield 12, 3) := by decide +kernel
theorem dX1_init_15 : decode cX1_init 15 = .ok (.aload_n 0, 1) := by decide +kernel
theorem dX1_init_16 : decode cX1_init 16 = .ok (.new 9, 3) := by decide +kernel
theorem dX1_init_19 : decode cX1_init 19 = .ok (.dup, 1) := by decide +kernel
theorem dX1_init_20 : decode cX1_init 20 = .ok (.invokespecial 11, 3) := by decide +kernel
theorem dX1_init_23 : decode cX1_init 23 = .ok (.putfield 18, 3) := by decide +kernel
theorem dX1_init_26 : decode cX1_init 26 = .ok (.aload_n 0, 1) := by decide +kernel
theorem dX1_init_27 : decode cX1_init 27 = .ok (.new 9, 3) := by decide +kernel
theorem dX1_init_30 : decode cX1_init 30 = .ok (.dup, 1) := by decide +kernel
theorem dX1_init_31 : decode cX1_init 31 = .ok (.invokespecial 11, 3) := by decide +kernel
theorem dX1_init_34 : decode cX1_init 34 = .ok (.putfield 21, 3) := by decide +kernel
theorem dX1_init_37 : decode cX1_init 37 = .ok (.aload_n 0, 1) := by decide +kernel
theorem dX1_init_38 : decode cX1_init 38 = .ok (.iconst 4, 1) := by decide +kernel
theorem dX1_init_39 : decode cX1_init 39 = .ok (.newarray .int, 2) := by decide +kernel
theorem dX1_init_41 : decode cX1_init 41 = .ok (.putfield 24, 3) := by decide +kernel
theorem dX1_init_44 : decode cX1_init 44 = .ok (.return_, 1) := by decide +kernel
theorem dX1_unite_0 : decode cX1_unite 0 = .ok (.aload_n 0, 1) := by decide +kernel
theorem dX1_unite_1 : decode cX1_unite 1 = .ok (.getfield 12, 3) := by decide +kernel
theorem dX1_unite_4 : decode cX1_unite 4 = .ok (.aload_n 1, 1) := by decide +kernel
theorem dX1_unite_5 : decode cX1_unite 5 = .ok (.invokevirtual 28, 3) := by decide +kernel
theorem dX1_unite_8 : decode cX1_unite 8 = .ok (.aload_n 0, 1) := by decide +kernel
theorem dX1_unite_9 : decode cX1_unite 9 = .ok (.getfield 18, 3) := by decide +kernel
theorem dX1_unite_12 : decode cX1_unite 12 = .ok (.aload_n 2, 1) := by decide +kernel
theorem dX1_unite_13 : decode cX1_unite 13 = .ok (.invokevirtual 28, 3) := by decide +kernel
theorem dX1_unite_16 : decode cX1_unite 16 = .ok (.aload_n 0, 1) := by decide +kernel
theorem dX1_unite_17 : decode cX1_unite 17 = .ok (.getfield 12, 3) := by decide +kernel
theorem dX1_unite_20 : decode cX1_unite 20 = .ok (.aload_n 2, 1) := by decide +kernel
theorem dX1_unite_21 : decode cX1_unite 21 = .ok (.invokevirtual 32, 3) := by decide +kernel
theorem dX1_unite_24 : decode cX1_unite 24 = .ok (.aload_n 0, 1) := by decide +kernel
theorem dX1_unite_25 : decode cX1_unite 25 = .ok (.getfield 18, 3) := by decide +kernel
theorem dX1_unite_28 : decode cX1_unite 28 = .ok (.aload_n 1, 1) := by decide +kernel
theorem dX1_unite_29 : decode cX1_unite 29 = .ok (.invokevirtual 32, 3) := by decide +kernel
theorem dX1_unite_32 : decode cX1_unite 32 = .ok (.aload_n 0, 1) := by decide +kernel
theorem dX1_unite_33 : decode cX1_unite 33 = .ok (.getfield 12, 3) := by decide +kernel
theorem dX1_unite_36 : decode cX1_unite 36 = .ok (.invokevirtual 35, 3) := by decide +kernel
theorem dX1_unite_39 : decode cX1_unite 39 = .ok (.ifCond .ne 13, 3) := by decide +kernel
theorem dX1_unite_42 : decode cX1_unite 42 = .ok (.aload_n 0, 1) := by decide +kernel
theorem dX1_unite_43 : decode cX1_unite 43 = .ok (.getfield 18, 3) := by decide +kernel
theorem dX1_unite_46 : decode cX1_unite 46 = .ok (.invokevirtual 35, 3) := by decide +kernel
theorem dX1_unite_49 : decode cX1_unite 49 = .ok (.ifCond .eq 5, 3) := by decide +kernel
theorem dX1_unite_52 : decode cX1_unite 52 = .ok (.iconst 0, 1) := by decide +kernel
theorem dX1_unite_53 : decode cX1_unite 53 = .ok (.ireturn, 1) := by decide +kernel
theorem dX1_unite_54 : decode cX1_unite 54 = .ok (.aload_n 0, 1) := by decide +kernel
theorem dX1_unite_55 : decode cX1_unite 55 = .ok (.getfield 21, 3) := by decide +kernel
theorem dX1_unite_58 : decode cX1_unite 58 = .ok (.aload_n 0, 1) := by decide +kernel
theorem dX1_unite_59 : decode cX1_unite 59 = .ok (.getfield 12, 3) := by decide +kernel
theorem dX1_unite_62 : decode cX1_unite 62 = .ok (.invokevirtual 28, 3) := by decide +kernel
theorem dX1_unite_65 : decode cX1_unite 65 = .ok (.aload_n 0, 1) := by decide +kernel
theorem dX1_unite_66 : decode cX1_unite 66 = .ok (.invokevirtual 39, 3) := by decide +kernel
theorem dX1_unite_69 : decode cX1_unite 69 = .ok (.ifCond .ne 5, 3) := by decide +kernel
theorem dX1_unite_72 : decode cX1_unite 72 = .ok (.iconst 0, 1) := by decide +kernel
theorem dX1_unite_73 : decode cX1_unite 73 = .ok (.ireturn, 1) := by decide +kernel
theorem dX1_unite_74 : decode cX1_unite 74 = .ok (.aload_n 0, 1) := by decide +kernel
theorem dX1_unite_75 : decode cX1_unite 75 = .ok (.getfield 21, 3) := by decide +kernel
theorem dX1_unite_78 : decode cX1_unite 78 = .ok (.aload_n 0, 1) := by decide +kernel
theorem dX1_unite_79 : decode cX1_unite 79 = .ok (.getfield 12, 3) := by decide +kernel
theorem dX1_unite_82 : decode cX1_unite 82 = .ok (.getfield 42, 3) := by decide +kernel
theorem dX1_unite_85 : decode cX1_unite 85 = .ok (.aload_n 0, 1) := by decide +kernel
theorem dX1_unite_86 : decode cX1_unite 86 = .ok (.getfield 18, 3) := by decide +kernel
theorem dX1_unite_89 : decode cX1_unite 89 = .ok (.getfield 42, 3) := by decide +kernel
theorem dX1_unite_92 : decode cX1_unite 92 = .ok (.invokestatic 46, 3) := by decide +kernel
theorem dX1_unite_95 : decode cX1_unite 95 = .ok (.putfield 42, 3) := by decide +kernel
theorem dX1_unite_98 : decode cX1_unite 98 = .ok (.aload_n 0, 1) := by decide +kernel
theorem dX1_unite_99 : decode cX1_unite 99 = .ok (.invokevirtual 52, 3) := by decide +kernel
theorem dX1_unite_102 : decode cX1_unite 102 = .ok (.aload_n 0, 1) := by decide +kernel
theorem dX1_unite_103 : decode cX1_unite 103 = .ok (.invokevirtual 55, 3) := by decide +kernel
theorem dX1_unite_106 : decode cX1_unite 106 = .ok (.aload_n 0, 1) := by decide +kernel
theorem dX1_unite_107 : decode cX1_unite 107 = .ok (.invokevirtual 58, 3) := by decide +kernel
theorem dX1_unite_110 : decode cX1_unite 110 = .ok (.iconst 1, 1) := by decide +kernel
theorem dX1_unite_111 : decode cX1_unite 111 = .ok (.ireturn, 1) := by decide +kernel
theorem dX1_uniteAlleles_0 : decode cX1_uniteAlleles 0 = .ok (.iconst 0, 1) := by decide +kernel
theorem dX1_uniteAlleles_1 : decode cX1_uniteAlleles 1 = .ok (.istore_n 1, 1) := by decide +kernel
theorem dX1_uniteAlleles_2 : decode cX1_uniteAlleles 2 = .ok (.iload_n 1, 1) := by decide +kernel
theorem dX1_uniteAlleles_3 : decode cX1_uniteAlleles 3 = .ok (.aload_n 0, 1) := by decide +kernel
theorem dX1_uniteAlleles_4 : decode cX1_uniteAlleles 4 = .ok (.getfield 18, 3) := by decide +kernel
theorem dX1_uniteAlleles_7 : decode cX1_uniteAlleles 7 = .ok (.getfield 61, 3) := by decide +kernel
theorem dX1_uniteAlleles_10 : decode cX1_uniteAlleles 10 = .ok (.if_icmp .ge 80, 3) := by decide +kernel
theorem dX1_uniteAlleles_13 : decode cX1_uniteAlleles 13 = .ok (.aload_n 0, 1) := by decide +kernel
theorem dX1_uniteAlleles_14 : decode cX1_uniteAlleles 14 = .ok (.getfield 21, 3) := by decide +kernel
theorem dX1_uniteAlleles_17 : decode cX1_uniteAlleles 17 = .ok (.aload_n 0, 1) := by decide +kernel
theorem dX1_uniteAlleles_18 : decode cX1_uniteAlleles 18 = .ok (.getfield 18, 3) := by decide +kernel
theorem dX1_uniteAlleles_21 : decode cX1_uniteAlleles 21 = .ok (.getfield 64, 3) := by decide +kernel
theorem dX1_uniteAlleles_24 : decode cX1_uniteAlleles 24 = .ok (.iload_n 1, 1) := by decide +kernel
theorem dX1_uniteAlleles_25 : decode cX1_uniteAlleles 25 = .ok (.iaload, 1) := by decide +kernel
theorem dX1_uniteAlleles_26 : decode cX1_uniteAlleles 26 = .ok (.aload_n 0, 1) := by decide +kernel
theorem dX1_uniteAlleles_27 : decode cX1_uniteAlleles 27 = .ok (.getfield 18, 3) := by decide +kernel
theorem dX1_uniteAlleles_30 : decode cX1_uniteAlleles 30 = .ok (.getfield 67, 3) := by decide +kernel
theorem dX1_uniteAlleles_33 : decode cX1_uniteAlleles 33 = .ok (.iload_n 1, 1) := by decide +kernel
theorem dX1_uniteAlleles_34 : decode cX1_uniteAlleles 34 = .ok (.iaload, 1) := by decide +kernel
theorem dX1_uniteAlleles_35 : decode cX1_uniteAlleles 35 = .ok (.invokevirtual 70, 3) := by decide +kernel
theorem dX1_uniteAlleles_38 : decode cX1_uniteAlleles 38 = .ok (.istore_n 2, 1) := by decide +kernel
theorem dX1_uniteAlleles_39 : decode cX1_uniteAlleles 39 = .ok (.iload_n 2, 1) := by decide +kernel
theorem dX1_uniteAlleles_40 : decode cX1_uniteAlleles 40 = .ok (.iconst (-1), 1) := by decide +kernel
theorem dX1_uniteAlleles_41 : decode cX1_uniteAlleles 41 = .ok (.if_icmp .ne 36, 3) := by decide +kernel
theorem dX1_uniteAlleles_44 : decode cX1_uniteAlleles 44 = .ok (.aload_n 0, 1) := by decide +kernel
theorem dX1_uniteAlleles_45 : decode cX1_uniteAlleles 45 = .ok (.getfield 21, 3) := by decide +kernel
theorem dX1_uniteAlleles_48 : decode cX1_uniteAlleles 48 = .ok (.getfield 61, 3) := by decide +kernel
theorem dX1_uniteAlleles_51 : decode cX1_uniteAlleles 51 = .ok (.iconst 4, 1) := by decide +kernel
theorem dX1_uniteAlleles_52 : decode cX1_uniteAlleles 52 = .ok (.if_icmp .ne 5, 3) := by decide +kernel
theorem dX1_uniteAlleles_55 : decode cX1_uniteAlleles 55 = .ok (.iconst 0, 1) := by decide +kernel
theorem dX1_uniteAlleles_56 : decode cX1_uniteAlleles 56 = .ok (.ireturn, 1) := by decide +kernel
theorem dX1_uniteAlleles_57 : decode cX1_uniteAlleles 57 = .ok (.aload_n 0, 1) := by decide +kernel
theorem dX1_uniteAlleles_58 : decode cX1_uniteAlleles 58 = .ok (.getfield 21, 3) := by decide +kernel
theorem dX1_uniteAlleles_61 : decode cX1_uniteAlleles 61 = .ok (.getfield 61, 3) := by decide +kernel
theorem dX1_uniteAlleles_64 : decode cX1_uniteAlleles 64 = .ok (.istore_n 2, 1) := by decide +kernel
theorem dX1_uniteAlleles_65 : decode cX1_uniteAlleles 65 = .ok (.aload_n 0, 1) := by decide +kernel
theorem dX1_uniteAlleles_66 : decode cX1_uniteAlleles 66 = .ok (.getfield 21, 3) := by decide +kernel
theorem dX1_uniteAlleles_69 : decode cX1_uniteAlleles 69 = .ok (.aload_n 0, 1) := by decide +kernel
theorem dX1_uniteAlleles_70 : decode cX1_uniteAlleles 70 = .ok (.getfield 18, 3) := by decide +kernel
theorem dX1_uniteAlleles_73 : decode cX1_uniteAlleles 73 = .ok (.iload_n 1, 1) := by decide +kernel
theorem dX1_uniteAlleles_74 : decode cX1_uniteAlleles 74 = .ok (.invokevirtual 73, 3) := by decide +kernel
theorem dX1_uniteAlleles_77 : decode cX1_uniteAlleles 77 = .ok (.aload_n 0, 1) := by decide +kernel
theorem dX1_uniteAlleles_78 : decode cX1_uniteAlleles 78 = .ok (.getfield 24, 3) := by decide +kernel
theorem dX1_uniteAlleles_81 : decode cX1_uniteAlleles 81 = .ok (.iload_n 1, 1) := by decide +kernel
theorem dX1_uniteAlleles_82 : decode cX1_uniteAlleles 82 = .ok (.iload_n 2, 1) := by decide +kernel
theorem dX1_uniteAlleles_83 : decode cX1_uniteAlleles 83 = .ok (.iastore, 1) := by decide +kernel
theorem dX1_uniteAlleles_84 : decode cX1_uniteAlleles 84 = .ok (.iinc 1 1, 3) := by decide +kernel
theorem dX1_uniteAlleles_87 : decode cX1_uniteAlleles 87 = .ok (.goto (-85), 3) := by decide +kernel
theorem dX1_uniteAlleles_90 : decode cX1_uniteAlleles 90 = .ok (.iconst 1, 1) := by decide +kernel
theorem dX1_uniteAlleles_91 : decode cX1_uniteAlleles 91 = .ok (.ireturn, 1) := by decide +kernel
theorem dX1_uniteDepths_0 : decode cX1_uniteDepths 0 = .ok (.aload_n 0, 1) := by decide +kernel
theorem dX1_uniteDepths_1 : decode cX1_uniteDepths 1 = .ok (.getfield 21, 3) := by decide +kernel
theorem dX1_uniteDepths_4 : decode cX1_uniteDepths 4 = .ok (.getfield 77, 3) := by decide +kernel
theorem dX1_uniteDepths_7 : decode cX1_uniteDepths 7 = .ok (.iconst 0, 1) := by decide +kernel
theorem dX1_uniteDepths_8 : decode cX1_uniteDepths 8 = .ok (.aload_n 0, 1) := by decide +kernel
theorem dX1_uniteDepths_9 : decode cX1_uniteDepths 9 = .ok (.getfield 12, 3) := by decide +kernel
theorem dX1_uniteDepths_12 : decode cX1_uniteDepths 12 = .ok (.getfield 77, 3) := by decide +kernel
theorem dX1_uniteDepths_15 : decode cX1_uniteDepths 15 = .ok (.iconst 0, 1) := by decide +kernel
theorem dX1_uniteDepths_16 : decode cX1_uniteDepths 16 = .ok (.iaload, 1) := by decide +kernel
theorem dX1_uniteDepths_17 : decode cX1_uniteDepths 17 = .ok (.aload_n 0, 1) := by decide +kernel
theorem dX1_uniteDepths_18 : decode cX1_uniteDepths 18 = .ok (.getfield 18, 3) := by decide +kernel
theorem dX1_uniteDepths_21 : decode cX1_uniteDepths 21 = .ok (.getfield 77, 3) := by decide +kernel
theorem dX1_uniteDepths_24 : decode cX1_uniteDepths 24 = .ok (.iconst 0, 1) := by decide +kernel
theorem dX1_uniteDepths_25 : decode cX1_uniteDepths 25 = .ok (.iaload, 1) := by decide +kernel
theorem dX1_uniteDepths_26 : decode cX1_uniteDepths 26 = .ok (.invokestatic 46, 3) := by decide +kernel
theorem dX1_uniteDepths_29 : decode cX1_uniteDepths 29 = .ok (.iastore, 1) := by decide +kernel
theorem dX1_uniteDepths_30 : decode cX1_uniteDepths 30 = .ok (.iconst 1, 1) := by decide +kernel
theorem dX1_uniteDepths_31 : decode cX1_uniteDepths 31 = .ok (.istore_n 1, 1) := by decide +kernel
theorem dX1_uniteDepths_32 : decode cX1_uniteDepths 32 = .ok (.iload_n 1, 1) := by decide +kernel
theorem dX1_uniteDepths_33 : decode cX1_uniteDepths 33 = .ok (.aload_n 0, 1) := by decide +kernel
theorem dX1_uniteDepths_34 : decode cX1_uniteDepths 34 = .ok (.getfield 18, 3) := by decide +kernel
theorem dX1_uniteDepths_37 : decode cX1_uniteDepths 37 = .ok (.getfield 61, 3) := by decide +kernel
theorem dX1_uniteDepths_40 : decode cX1_uniteDepths 40 = .ok (.if_icmp .ge 63, 3) := by decide +kernel
theorem dX1_uniteDepths_43 : decode cX1_uniteDepths 43 = .ok (.aload_n 0, 1) := by decide +kernel
theorem dX1_uniteDepths_44 : decode cX1_uniteDepths 44 = .ok (.getfield 24, 3) := by decide +kernel
theorem dX1_uniteDepths_47 : decode cX1_uniteDepths 47 = .ok (.iload_n 1, 1) := by decide +kernel
theorem dX1_uniteDepths_48 : decode cX1_uniteDepths 48 = .ok (.iaload, 1) := by decide +kernel
theorem dX1_uniteDepths_49 : decode cX1_uniteDepths 49 = .ok (.istore_n 2, 1) := by decide +kernel
theorem dX1_uniteDepths_50 : decode cX1_uniteDepths 50 = .ok (.iload_n 2, 1) := by decide +kernel
theorem dX1_uniteDepths_51 : decode cX1_uniteDepths 51 = .ok (.aload_n 0, 1) := by decide +kernel
theorem dX1_uniteDepths_52 : decode cX1_uniteDepths 52 = .ok (.getfield 12, 3) := by decide +kernel
theorem dX1_uniteDepths_55 : decode cX1_uniteDepths 55 = .ok (.getfield 61, 3) := by decide +kernel
theorem dX1_uniteDepths_58 : decode cX1_uniteDepths 58 = .ok (.if_icmp .ge 39, 3) := by decide +kernel
theorem dX1_uniteDepths_61 : decode cX1_uniteDepths 61 = .ok (.aload_n 0, 1) := by decide +kernel
theorem dX1_uniteDepths_62 : decode cX1_uniteDepths 62 = .ok (.getfield 12, 3) := by decide +kernel
theorem dX1_uniteDepths_65 : decode cX1_uniteDepths 65 = .ok (.getfield 77, 3) := by decide +kernel
theorem dX1_uniteDepths_68 : decode cX1_uniteDepths 68 = .ok (.iload_n 2, 1) := by decide +kernel
theorem dX1_uniteDepths_69 : decode cX1_uniteDepths 69 = .ok (.iaload, 1) := by decide +kernel
theorem dX1_uniteDepths_70 : decode cX1_uniteDepths 70 = .ok (.aload_n 0, 1) := by decide +kernel
theorem dX1_uniteDepths_71 : decode cX1_uniteDepths 71 = .ok (.getfield 18, 3) := by decide +kernel
theorem dX1_uniteDepths_74 : decode cX1_uniteDepths 74 = .ok (.getfield 77, 3) := by decide +kernel
theorem dX1_uniteDepths_77 : decode cX1_uniteDepths 77 = .ok (.iload_n 1, 1) := by decide +kernel
theorem dX1_uniteDepths_78 : decode cX1_uniteDepths 78 = .ok (.iaload, 1) := by decide +kernel
theorem dX1_uniteDepths_79 : decode cX1_uniteDepths 79 = .ok (.iadd, 1) := by decide +kernel
theorem dX1_uniteDepths_80 : decode cX1_uniteDepths 80 = .ok (.istore_n 3, 1) := by decide +kernel
theorem dX1_uniteDepths_81 : decode cX1_uniteDepths 81 = .ok (.aload_n 0, 1) := by decide +kernel
theorem dX1_uniteDepths_82 : decode cX1_uniteDepths 82 = .ok (.getfield 21, 3) := by decide +kernel
theorem dX1_uniteDepths_85 : decode cX1_uniteDepths 85 = .ok (.getfield 77, 3) := by decide +kernel
theorem dX1_uniteDepths_88 : decode cX1_uniteDepths 88 = .ok (.iload_n 2, 1) := by decide +kernel
theorem dX1_uniteDepths_89 : decode cX1_uniteDepths 89 = .ok (.iload_n 3, 1) := by decide +kernel
theorem dX1_uniteDepths_90 : decode cX1_uniteDepths 90 = .ok (.sipush 9999, 3) := by decide +kernel
theorem dX1_uniteDepths_93 : decode cX1_uniteDepths 93 = .ok (.invokestatic 80, 3) := by decide +kernel
theorem dX1_uniteDepths_96 : decode cX1_uniteDepths 96 = .ok (.iastore, 1) := by decide +kernel
theorem dX1_uniteDepths_97 : decode cX1_uniteDepths 97 = .ok (.iinc 1 1, 3) := by decide +kernel
theorem dX1_uniteDepths_100 : decode cX1_uniteDepths 100 = .ok (.goto (-68), 3) := by decide +kernel
theorem dX1_uniteDepths_103 : decode cX1_uniteDepths 103 = .ok (.return_, 1) := by decide +kernel
theorem dX1_uniteGenotypes_0 : decode cX1_uniteGenotypes 0 = .ok (.iconst 0, 1) := by decide +kernel
theorem dX1_uniteGenotypes_1 : decode cX1_uniteGenotypes 1 = .ok (.istore_n 1, 1) := by decide +kernel
theorem dX1_uniteGenotypes_2 : decode cX1_uniteGenotypes 2 = .ok (.iload_n 1, 1) := by decide +kernel
theorem dX1_uniteGenotypes_3 : decode cX1_uniteGenotypes 3 = .ok (.iconst 4, 1) := by decide +kernel
theorem dX1_uniteGenotypes_4 : decode cX1_uniteGenotypes 4 = .ok (.if_icmp .ge 40, 3) := by decide +kernel
theorem dX1_uniteGenotypes_7 : decode cX1_uniteGenotypes 7 = .ok (.aload_n 0, 1) := by decide +kernel
theorem dX1_uniteGenotypes_8 : decode cX1_uniteGenotypes 8 = .ok (.getfield 21, 3) := by decide +kernel
theorem dX1_uniteGenotypes_11 : decode cX1_uniteGenotypes 11 = .ok (.getfield 83, 3) := by decide +kernel
theorem dX1_uniteGenotypes_14 : decode cX1_uniteGenotypes 14 = .ok (.iload_n 1, 1) := by decide +kernel
theorem dX1_uniteGenotypes_15 : decode cX1_uniteGenotypes 15 = .ok (.aload_n 0, 1) := by decide +kernel
theorem dX1_uniteGenotypes_16 : decode cX1_uniteGenotypes 16 = .ok (.aload_n 0, 1) := by decide +kernel
theorem dX1_uniteGenotypes_17 : decode cX1_uniteGenotypes 17 = .ok (.getfield 12, 3) := by decide +kernel
theorem dX1_uniteGenotypes_20 : decode cX1_uniteGenotypes 20 = .ok (.getfield 83, 3) := by decide +kernel
theorem dX1_uniteGenotypes_23 : decode cX1_uniteGenotypes 23 = .ok (.iload_n 1, 1) := by decide +kernel
theorem dX1_uniteGenotypes_24 : decode cX1_uniteGenotypes 24 = .ok (.iaload, 1) := by decide +kernel
theorem dX1_uniteGenotypes_25 : decode cX1_uniteGenotypes 25 = .ok (.aload_n 0, 1) := by decide +kernel
theorem dX1_uniteGenotypes_26 : decode cX1_uniteGenotypes 26 = .ok (.getfield 18, 3) := by decide +kernel
theorem dX1_uniteGenotypes_29 : decode cX1_uniteGenotypes 29 = .ok (.getfield 83, 3) := by decide +kernel
theorem dX1_uniteGenotypes_32 : decode cX1_uniteGenotypes 32 = .ok (.iload_n 1, 1) := by decide +kernel
theorem dX1_uniteGenotypes_33 : decode cX1_uniteGenotypes 33 = .ok (.iaload, 1) := by decide +kernel
theorem dX1_uniteGenotypes_34 : decode cX1_uniteGenotypes 34 = .ok (.invokevirtual 86, 3) := by decide +kernel
theorem dX1_uniteGenotypes_37 : decode cX1_uniteGenotypes 37 = .ok (.iastore, 1) := by decide +kernel
theorem dX1_uniteGenotypes_38 : decode cX1_uniteGenotypes 38 = .ok (.iinc 1 1, 3) := by decide +kernel
theorem dX1_uniteGenotypes_41 : decode cX1_uniteGenotypes 41 = .ok (.goto (-39), 3) := by decide +kernel
theorem dX1_uniteGenotypes_44 : decode cX1_uniteGenotypes 44 = .ok (.iconst 0, 1) := by decide +kernel
theorem dX1_uniteGenotypes_45 : decode cX1_uniteGenotypes 45 = .ok (.istore_n 1, 1) := by decide +kernel
theorem dX1_uniteGenotypes_46 : decode cX1_uniteGenotypes 46 = .ok (.iload_n 1, 1) := by decide +kernel
theorem dX1_uniteGenotypes_47 : decode cX1_uniteGenotypes 47 = .ok (.iconst 2, 1) := by decide +kernel
theorem dX1_uniteGenotypes_48 : decode cX1_uniteGenotypes 48 = .ok (.if_icmp .ge 47, 3) := by decide +kernel
theorem dX1_uniteGenotypes_51 : decode cX1_uniteGenotypes 51 = .ok (.aload_n 0, 1) := by decide +kernel
theorem dX1_uniteGenotypes_52 : decode cX1_uniteGenotypes 52 = .ok (.getfield 21, 3) := by decide +kernel
theorem dX1_uniteGenotypes_55 : decode cX1_uniteGenotypes 55 = .ok (.getfield 89, 3) := by decide +kernel
theorem dX1_uniteGenotypes_58 : decode cX1_uniteGenotypes 58 = .ok (.iload_n 1, 1) := by decide +kernel
theorem dX1_uniteGenotypes_59 : decode cX1_uniteGenotypes 59 = .ok (.aload_n 0, 1) := by decide +kernel
theorem dX1_uniteGenotypes_60 : decode cX1_uniteGenotypes 60 = .ok (.getfield 12, 3) := by decide +kernel
theorem dX1_uniteGenotypes_63 : decode cX1_uniteGenotypes 63 = .ok (.getfield 89, 3) := by decide +kernel
theorem dX1_uniteGenotypes_66 : decode cX1_uniteGenotypes 66 = .ok (.iload_n 1, 1) := by decide +kernel
theorem dX1_uniteGenotypes_67 : decode cX1_uniteGenotypes 67 = .ok (.baload, 1) := by decide +kernel
theorem dX1_uniteGenotypes_68 : decode cX1_uniteGenotypes 68 = .ok (.ifCond .eq 19, 3) := by decide +kernel
theorem dX1_uniteGenotypes_71 : decode cX1_uniteGenotypes 71 = .ok (.aload_n 0, 1) := by decide +kernel
theorem dX1_uniteGenotypes_72 : decode cX1_uniteGenotypes 72 = .ok (.getfield 18, 3) := by decide +kernel
theorem dX1_uniteGenotypes_75 : decode cX1_uniteGenotypes 75 = .ok (.getfield 89, 3) := by decide +kernel
theorem dX1_uniteGenotypes_78 : decode cX1_uniteGenotypes 78 = .ok (.iload_n 1, 1) := by decide +kernel
theorem dX1_uniteGenotypes_79 : decode cX1_uniteGenotypes 79 = .ok (.baload, 1) := by decide +kernel
theorem dX1_uniteGenotypes_80 : decode cX1_uniteGenotypes 80 = .ok (.ifCond .eq 7, 3) := by decide +kernel
theorem dX1_uniteGenotypes_83 : decode cX1_uniteGenotypes 83 = .ok (.iconst 1, 1) := by decide +kernel
theorem dX1_uniteGenotypes_84 : decode cX1_uniteGenotypes 84 = .ok (.goto 4, 3) := by decide +kernel
theorem dX1_uniteGenotypes_87 : decode cX1_uniteGenotypes 87 = .ok (.iconst 0, 1) := by decide +kernel
theorem dX1_uniteGenotypes_88 : decode cX1_uniteGenotypes 88 = .ok (.bastore, 1) := by decide +kernel
theorem dX1_uniteGenotypes_89 : decode cX1_uniteGenotypes 89 = .ok (.iinc 1 1, 3) := by decide +kernel
theorem dX1_uniteGenotypes_92 : decode cX1_uniteGenotypes 92 = .ok (.goto (-46), 3) := by decide +kernel
theorem dX1_uniteGenotypes_95 : decode cX1_uniteGenotypes 95 = .ok (.return_, 1) := by decide +kernel
theorem dX1_unitedAllele_0 : decode cX1_unitedAllele 0 = .ok (.iload_n 1, 1) := by decide +kernel
theorem dX1_unitedAllele_1 : decode cX1_unitedAllele 1 = .ok (.ifCond .gt 8, 3) := by decide +kernel
theorem dX1_unitedAllele_4 : decode cX1_unitedAllele 4 = .ok (.iload_n 2, 1) := by decide +kernel
theorem dX1_unitedAllele_5 : decode cX1_unitedAllele 5 = .ok (.iconst (-1), 1) := by decide +kernel
theorem dX1_unitedAllele_6 : decode cX1_unitedAllele 6 = .ok (.if_icmp .ne 5, 3) := by decide +kernel
theorem dX1_unitedAllele_9 : decode cX1_unitedAllele 9 = .ok (.iload_n 1, 1) := by decide +kernel
theorem dX1_unitedAllele_10 : decode cX1_unitedAllele 10 = .ok (.ireturn, 1) := by decide +kernel
theorem dX1_unitedAllele_11 : decode cX1_unitedAllele 11 = .ok (.aload_n 0, 1) := by decide +kernel
theorem dX1_unitedAllele_12 : decode cX1_unitedAllele 12 = .ok (.getfield 24, 3) := by decide +kernel
theorem dX1_unitedAllele_15 : decode cX1_unitedAllele 15 = .ok (.iload_n 2, 1) := by decide +kernel
theorem dX1_unitedAllele_16 : decode cX1_unitedAllele 16 = .ok (.iaload, 1) := by decide +kernel
theorem dX1_unitedAllele_17 : decode cX1_unitedAllele 17 = .ok (.ireturn, 1) := by decide +kernel
theorem dX1_uniteLikelihoods_0 : decode cX1_uniteLikelihoods 0 = .ok (.aload_n 0, 1) := by decide +kernel
theorem dX1_uniteLikelihoods_1 : decode cX1_uniteLikelihoods 1 = .ok (.getfield 21, 3) := by decide +kernel
theorem dX1_uniteLikelihoods_4 : decode cX1_uniteLikelihoods 4 = .ok (.sipush 999, 3) := by decide +kernel
theorem dX1_uniteLikelihoods_7 : decode cX1_uniteLikelihoods 7 = .ok (.invokevirtual 93, 3) := by decide +kernel
theorem dX1_uniteLikelihoods_10 : decode cX1_uniteLikelihoods 10 = .ok (.iconst 0, 1) := by decide +kernel
theorem dX1_uniteLikelihoods_11 : decode cX1_uniteLikelihoods 11 = .ok (.istore_n 1, 1) := by decide +kernel
theorem dX1_uniteLikelihoods_12 : decode cX1_uniteLikelihoods 12 = .ok (.iload_n 1, 1) := by decide +kernel
theorem dX1_uniteLikelihoods_13 : decode cX1_uniteLikelihoods 13 = .ok (.iconst 2, 1) := by decide +kernel
theorem dX1_uniteLikelihoods_14 : decode cX1_uniteLikelihoods 14 = .ok (.if_icmp .ge 137, 3) := by decide +kernel
theorem dX1_uniteLikelihoods_17 : decode cX1_uniteLikelihoods 17 = .ok (.bipush 10, 2) := by decide +kernel
theorem dX1_uniteLikelihoods_19 : decode cX1_uniteLikelihoods 19 = .ok (.iload_n 1, 1) := by decide +kernel
theorem dX1_uniteLikelihoods_20 : decode cX1_uniteLikelihoods 20 = .ok (.imul, 1) := by decide +kernel
theorem dX1_uniteLikelihoods_21 : decode cX1_uniteLikelihoods 21 = .ok (.istore_n 2, 1) := by decide +kernel
theorem dX1_uniteLikelihoods_22 : decode cX1_uniteLikelihoods 22 = .ok (.aload_n 0, 1) := by decide +kernel
theorem dX1_uniteLikelihoods_23 : decode cX1_uniteLikelihoods 23 = .ok (.getfield 12, 3) := by decide +kernel
theorem dX1_uniteLikelihoods_26 : decode cX1_uniteLikelihoods 26 = .ok (.getfield 97, 3) := by decide +kernel
theorem dX1_uniteLikelihoods_29 : decode cX1_uniteLikelihoods 29 = .ok (.iload_n 2, 1) := by decide +kernel
theorem dX1_uniteLikelihoods_30 : decode cX1_uniteLikelihoods 30 = .ok (.aload_n 0, 1) := by decide +kernel
theorem dX1_uniteLikelihoods_31 : decode cX1_uniteLikelihoods 31 = .ok (.getfield 21, 3) := by decide +kernel
theorem dX1_uniteLikelihoods_34 : decode cX1_uniteLikelihoods 34 = .ok (.getfield 97, 3) := by decide +kernel
theorem dX1_uniteLikelihoods_37 : decode cX1_uniteLikelihoods 37 = .ok (.iload_n 2, 1) := by decide +kernel
theorem dX1_uniteLikelihoods_38 : decode cX1_uniteLikelihoods 38 = .ok (.aload_n 0, 1) := by decide +kernel
theorem dX1_uniteLikelihoods_39 : decode cX1_uniteLikelihoods 39 = .ok (.getfield 12, 3) := by decide +kernel
theorem dX1_uniteLikelihoods_42 : decode cX1_uniteLikelihoods 42 = .ok (.invokevirtual 100, 3) := by decide +kernel
theorem dX1_uniteLikelihoods_45 : decode cX1_uniteLikelihoods 45 = .ok (.invokestatic 104, 3) := by decide +kernel
theorem dX1_uniteLikelihoods_48 : decode cX1_uniteLikelihoods 48 = .ok (.iconst 0, 1) := by decide +kernel
theorem dX1_uniteLikelihoods_49 : decode cX1_uniteLikelihoods 49 = .ok (.istore_n 3, 1) := by decide +kernel
theorem dX1_uniteLikelihoods_50 : decode cX1_uniteLikelihoods 50 = .ok (.iload_n 3, 1) := by decide +kernel
theorem dX1_uniteLikelihoods_51 : decode cX1_uniteLikelihoods 51 = .ok (.aload_n 0, 1) := by decide +kernel
theorem dX1_uniteLikelihoods_52 : decode cX1_uniteLikelihoods 52 = .ok (.getfield 18, 3) := by decide +kernel
theorem dX1_uniteLikelihoods_55 : decode cX1_uniteLikelihoods 55 = .ok (.getfield 61, 3) := by decide +kernel
theorem dX1_uniteLikelihoods_58 : decode cX1_uniteLikelihoods 58 = .ok (.if_icmp .ge 87, 3) := by decide +kernel
theorem dX1_uniteLikelihoods_61 : decode cX1_uniteLikelihoods 61 = .ok (.iconst 0, 1) := by decide +kernel
theorem dX1_uniteLikelihoods_62 : decode cX1_uniteLikelihoods 62 = .ok (.istore 4, 2) := by decide +kernel
theorem dX1_uniteLikelihoods_64 : decode cX1_uniteLikelihoods 64 = .ok (.iload 4, 2) := by decide +kernel
theorem dX1_uniteLikelihoods_66 : decode cX1_uniteLikelihoods 66 = .ok (.iload_n 3, 1) := by decide +kernel
theorem dX1_uniteLikelihoods_67 : decode cX1_uniteLikelihoods 67 = .ok (.if_icmp .gt 72, 3) := by decide +kernel
theorem dX1_uniteLikelihoods_70 : decode cX1_uniteLikelihoods 70 = .ok (.iload_n 2, 1) := by decide +kernel
theorem dX1_uniteLikelihoods_71 : decode cX1_uniteLikelihoods 71 = .ok (.aload_n 0, 1) := by decide +kernel
theorem dX1_uniteLikelihoods_72 : decode cX1_uniteLikelihoods 72 = .ok (.getfield 24, 3) := by decide +kernel
theorem dX1_uniteLikelihoods_75 : decode cX1_uniteLikelihoods 75 = .ok (.iload 4, 2) := by decide +kernel
theorem dX1_uniteLikelihoods_77 : decode cX1_uniteLikelihoods 77 = .ok (.iaload, 1) := by decide +kernel
theorem dX1_uniteLikelihoods_78 : decode cX1_uniteLikelihoods 78 = .ok (.aload_n 0, 1) := by decide +kernel
theorem dX1_uniteLikelihoods_79 : decode cX1_uniteLikelihoods 79 = .ok (.getfield 24, 3) := by decide +kernel
theorem dX1_uniteLikelihoods_82 : decode cX1_uniteLikelihoods 82 = .ok (.iload_n 3, 1) := by decide +kernel
theorem dX1_uniteLikelihoods_83 : decode cX1_uniteLikelihoods 83 = .ok (.iaload, 1) := by decide +kernel
theorem dX1_uniteLikelihoods_84 : decode cX1_uniteLikelihoods 84 = .ok (.invokestatic 110, 3) := by decide +kernel
theorem dX1_uniteLikelihoods_87 : decode cX1_uniteLikelihoods 87 = .ok (.iadd, 1) := by decide +kernel
theorem dX1_uniteLikelihoods_88 : decode cX1_uniteLikelihoods 88 = .ok (.istore 5, 2) := by decide +kernel
theorem dX1_uniteLikelihoods_90 : decode cX1_uniteLikelihoods 90 = .ok (.aload_n 0, 1) := by decide +kernel
theorem dX1_uniteLikelihoods_91 : decode cX1_uniteLikelihoods 91 = .ok (.getfield 18, 3) := by decide +kernel
theorem dX1_uniteLikelihoods_94 : decode cX1_uniteLikelihoods 94 = .ok (.getfield 97, 3) := by decide +kernel
theorem dX1_uniteLikelihoods_97 : decode cX1_uniteLikelihoods 97 = .ok (.iload_n 2, 1) := by decide +kernel
theorem dX1_uniteLikelihoods_98 : decode cX1_uniteLikelihoods 98 = .ok (.iload 4, 2) := by decide +kernel
theorem dX1_uniteLikelihoods_100 : decode cX1_uniteLikelihoods 100 = .ok (.iload_n 3, 1) := by decide +kernel
theorem dX1_uniteLikelihoods_101 : decode cX1_uniteLikelihoods 101 = .ok (.invokestatic 110, 3) := by decide +kernel
theorem dX1_uniteLikelihoods_104 : decode cX1_uniteLikelihoods 104 = .ok (.iadd, 1) := by decide +kernel
theorem dX1_uniteLikelihoods_105 : decode cX1_uniteLikelihoods 105 = .ok (.iaload, 1) := by decide +kernel
theorem dX1_uniteLikelihoods_106 : decode cX1_uniteLikelihoods 106 = .ok (.istore 6, 2) := by decide +kernel
theorem dX1_uniteLikelihoods_108 : decode cX1_uniteLikelihoods 108 = .ok (.aload_n 0, 1) := by decide +kernel
theorem dX1_uniteLikelihoods_109 : decode cX1_uniteLikelihoods 109 = .ok (.getfield 21, 3) := by decide +kernel
theorem dX1_uniteLikelihoods_112 : decode cX1_uniteLikelihoods 112 = .ok (.getfield 97, 3) := by decide +kernel
theorem dX1_uniteLikelihoods_115 : decode cX1_uniteLikelihoods 115 = .ok (.iload 5, 2) := by decide +kernel
theorem dX1_uniteLikelihoods_117 : decode cX1_uniteLikelihoods 117 = .ok (.aload_n 0, 1) := by decide +kernel
theorem dX1_uniteLikelihoods_118 : decode cX1_uniteLikelihoods 118 = .ok (.getfield 21, 3) := by decide +kernel
theorem dX1_uniteLikelihoods_121 : decode cX1_uniteLikelihoods 121 = .ok (.getfield 97, 3) := by decide +kernel
theorem dX1_uniteLikelihoods_124 : decode cX1_uniteLikelihoods 124 = .ok (.iload 5, 2) := by decide +kernel
theorem dX1_uniteLikelihoods_126 : decode cX1_uniteLikelihoods 126 = .ok (.iaload, 1) := by decide +kernel
theorem dX1_uniteLikelihoods_127 : decode cX1_uniteLikelihoods 127 = .ok (.iload 6, 2) := by decide +kernel
theorem dX1_uniteLikelihoods_129 : decode cX1_uniteLikelihoods 129 = .ok (.invokestatic 80, 3) := by decide +kernel
theorem dX1_uniteLikelihoods_132 : decode cX1_uniteLikelihoods 132 = .ok (.iastore, 1) := by decide +kernel
theorem dX1_uniteLikelihoods_133 : decode cX1_uniteLikelihoods 133 = .ok (.iinc 4 1, 3) := by decide +kernel
theorem dX1_uniteLikelihoods_136 : decode cX1_uniteLikelihoods 136 = .ok (.goto (-72), 3) := by decide +kernel
theorem dX1_uniteLikelihoods_139 : decode cX1_uniteLikelihoods 139 = .ok (.iinc 3 1, 3) := by decide +kernel
theorem dX1_uniteLikelihoods_142 : decode cX1_uniteLikelihoods 142 = .ok (.goto (-92), 3) := by decide +kernel
theorem dX1_uniteLikelihoods_145 : decode cX1_uniteLikelihoods 145 = .ok (.iinc 1 1, 3) := by decide +kernel
theorem dX1_uniteLikelihoods_148 : decode cX1_uniteLikelihoods 148 = .ok (.goto (-136), 3) := by decide +kernel
theorem dX1_uniteLikelihoods_151 : decode cX1_uniteLikelihoods 151 = .ok (.return_, 1) := by decide +kernel
theorem dX2_init_0 : decode cX2_init 0 = .ok (.aload_n 0, 1) := by decide +kernel
theorem dX2_init_1 : decode cX2_init 1 = .ok (.invokespecial 3, 3) := by decide +kernel
theorem dX2_init_4 : decode cX2_init 4 = .ok (.aload_n 0, 1) := by decide +kernel
theorem dX2_init_5 : decode cX2_init 5 = .ok (.bipush 24, 2) := by decide +kernel
theorem dX2_init_7 : decode cX2_init 7 = .ok (.anewarray 9, 3) := by decide +kernel
theorem dX2_init_10 : decode cX2_init 10 = .ok (.putfield 11, 3) := by decide +kernel
theorem dX2_init_13 : decode cX2_init 13 = .ok (.iconst 0, 1) := by decide +kernel
theorem dX2_init_14 : decode cX2_init 14 = .ok (.istore_n 1, 1) := by decide +kernel
theorem dX2_init_15 : decode cX2_init 15 = .ok (.iload_n 1, 1) := by decide +kernel
theorem dX2_init_16 : decode cX2_init 16 = .ok (.bipush 24, 2) := by decide +kernel
theorem dX2_init_18 : decode cX2_init 18 = .ok (.if_icmp .ge 22, 3) := by decide +kernel
theorem dX2_init_21 : decode cX2_init 21 = .ok (.aload_n 0, 1) := by decide +kernel
theorem dX2_init_22 : decode cX2_init 22 = .ok (.getfield 11, 3) := by decide +kernel
theorem dX2_init_25 : decode cX2_init 25 = .ok (.iload_n 1, 1) := by decide +kernel
theorem dX2_init_26 : decode cX2_init 26 = .ok (.new 9, 3) := by decide +kernel
theorem dX2_init_29 : decode cX2_init 29 = .ok (.dup, 1) := by decide +kernel
theorem dX2_init_30 : decode cX2_init 30 = .ok (.invokespecial 17, 3) := by decide +kernel
theorem dX2_init_33 : decode cX2_init 33 = .ok (.aastore, 1) := by decide +kernel
theorem dX2_init_34 : decode cX2_init 34 = .ok (.iinc 1 1, 3) := by decide +kernel
theorem dX2_init_37 : decode cX2_init 37 = .ok (.goto (-22), 3) := by decide +kernel
theorem dX2_init_40 : decode cX2_init 40 = .ok (.aload_n 0, 1) := by decide +kernel
theorem dX2_init_41 : decode cX2_init 41 = .ok (.iconst 0, 1) := by decide +kernel
theorem dX2_init_42 : decode cX2_init 42 = .ok (.putfield 18, 3) := by decide +kernel
theorem dX2_init_45 : decode cX2_init 45 = .ok (.return_, 1) := by decide +kernel
theorem dX2_isFull_0 : decode cX2_isFull 0 = .ok (.aload_n 0, 1) := by decide +kernel
theorem dX2_isFull_1 : decode cX2_isFull 1 = .ok (.getfield 18, 3) := by decide +kernel
theorem dX2_isFull_4 : decode cX2_isFull 4 = .ok (.bipush 24, 2) := by decide +kernel
theorem dX2_isFull_6 : decode cX2_isFull 6 = .ok (.if_icmp .lt 7, 3) := by decide +kernel
theorem dX2_isFull_9 : decode cX2_isFull 9 = .ok (.iconst 1, 1) := by decide +kernel
theorem dX2_isFull_10 : decode cX2_isFull 10 = .ok (.goto 4, 3) := by decide +kernel
theorem dX2_isFull_13 : decode cX2_isFull 13 = .ok (.iconst 0, 1) := by decide +kernel
theorem dX2_isFull_14 : decode cX2_isFull 14 = .ok (.ireturn, 1) := by decide +kernel
theorem dX2_insert_0 : decode cX2_insert 0 = .ok (.iconst 0, 1) := by decide +kernel
theorem dX2_insert_1 : decode cX2_insert 1 = .ok (.istore_n 2, 1) := by decide +kernel
theorem dX2_insert_2 : decode cX2_insert 2 = .ok (.iload_n 2, 1) := by decide +kernel
theorem dX2_insert_3 : decode cX2_insert 3 = .ok (.aload_n 0, 1) := by decide +kernel
theorem dX2_insert_4 : decode cX2_insert 4 = .ok (.getfield 18, 3) := by decide +kernel
theorem dX2_insert_7 : decode cX2_insert 7 = .ok (.if_icmp .ge 25, 3) := by decide +kernel
theorem dX2_insert_10 : decode cX2_insert 10 = .ok (.aload_n 0, 1) := by decide +kernel
theorem dX2_insert_11 : decode cX2_insert 11 = .ok (.getfield 11, 3) := by decide +kernel
theorem dX2_insert_14 : decode cX2_insert 14 = .ok (.iload_n 2, 1) := by decide +kernel
theorem dX2_insert_15 : decode cX2_insert 15 = .ok (.aaload, 1) := by decide +kernel
theorem dX2_insert_16 : decode cX2_insert 16 = .ok (.getfield 22, 3) := by decide +kernel
theorem dX2_insert_19 : decode cX2_insert 19 = .ok (.aload_n 1, 1) := by decide +kernel
theorem dX2_insert_20 : decode cX2_insert 20 = .ok (.getfield 22, 3) := by decide +kernel
theorem dX2_insert_23 : decode cX2_insert 23 = .ok (.if_icmp .gt 9, 3) := by decide +kernel
theorem dX2_insert_26 : decode cX2_insert 26 = .ok (.iinc 2 1, 3) := by decide +kernel
theorem dX2_insert_29 : decode cX2_insert 29 = .ok (.goto (-27), 3) := by decide +kernel
theorem dX2_insert_32 : decode cX2_insert 32 = .ok (.aload_n 0, 1) := by decide +kernel
theorem dX2_insert_33 : decode cX2_insert 33 = .ok (.iload_n 2, 1) := by decide +kernel
theorem dX2_insert_34 : decode cX2_insert 34 = .ok (.invokevirtual 25, 3) := by decide +kernel
theorem dX2_insert_37 : decode cX2_insert 37 = .ok (.aload_n 1, 1) := by decide +kernel
theorem dX2_insert_38 : decode cX2_insert 38 = .ok (.invokevirtual 29, 3) := by decide +kernel
theorem dX2_insert_41 : decode cX2_insert 41 = .ok (.iload_n 2, 1) := by decide +kernel
theorem dX2_insert_42 : decode cX2_insert 42 = .ok (.ireturn, 1) := by decide +kernel
theorem dX2_open_0 : decode cX2_open 0 = .ok (.aload_n 0, 1) := by decide +kernel
theorem dX2_open_1 : decode cX2_open 1 = .ok (.getfield 11, 3) := by decide +kernel
theorem dX2_open_4 : decode cX2_open 4 = .ok (.aload_n 0, 1) := by decide +kernel
theorem dX2_open_5 : decode cX2_open 5 = .ok (.getfield 18, 3) := by decide +kernel
theorem dX2_open_8 : decode cX2_open 8 = .ok (.aaload, 1) := by decide +kernel
theorem dX2_open_9 : decode cX2_open 9 = .ok (.astore_n 2, 1) := by decide +kernel
theorem dX2_open_10 : decode cX2_open 10 = .ok (.aload_n 0, 1) := by decide +kernel
theorem dX2_open_11 : decode cX2_open 11 = .ok (.getfield 18, 3) := by decide +kernel
theorem dX2_open_14 : decode cX2_open 14 = .ok (.istore_n 3, 1) := by decide +kernel
theorem dX2_open_15 : decode cX2_open 15 = .ok (.iload_n 3, 1) := by decide +kernel
theorem dX2_open_16 : decode cX2_open 16 = .ok (.iload_n 1, 1) := by decide +kernel
theorem dX2_open_17 : decode cX2_open 17 = .ok (.if_icmp .le 23, 3) := by decide +kernel
theorem dX2_open_20 : decode cX2_open 20 = .ok (.aload_n 0, 1) := by decide +kernel
theorem dX2_open_21 : decode cX2_open 21 = .ok (.getfield 11, 3) := by decide +kernel
theorem dX2_open_24 : decode cX2_open 24 = .ok (.iload_n 3, 1) := by decide +kernel
theorem dX2_open_25 : decode cX2_open 25 = .ok (.aload_n 0, 1) := by decide +kernel
theorem dX2_open_26 : decode cX2_open 26 = .ok (.getfield 11, 3) := by decide +kernel
theorem dX2_open_29 : decode cX2_open 29 = .ok (.iload_n 3, 1) := by decide +kernel
theorem dX2_open_30 : decode cX2_open 30 = .ok (.iconst 1, 1) := by decide +kernel
theorem dX2_open_31 : decode cX2_open 31 = .ok (.isub, 1) := by decide +kernel
theorem dX2_open_32 : decode cX2_open 32 = .ok (.aaload, 1) := by decide +kernel
theorem dX2_open_33 : decode cX2_open 33 = .ok (.aastore, 1) := by decide +kernel
theorem dX2_open_34 : decode cX2_open 34 = .ok (.iinc 3 (-1), 3) := by decide +kernel
theorem dX2_open_37 : decode cX2_open 37 = .ok (.goto (-22), 3) := by decide +kernel
theorem dX2_open_40 : decode cX2_open 40 = .ok (.aload_n 0, 1) := by decide +kernel
theorem dX2_open_41 : decode cX2_open 41 = .ok (.getfield 11, 3) := by decide +kernel
theorem dX2_open_44 : decode cX2_open 44 = .ok (.iload_n 1, 1) := by decide +kernel
theorem dX2_open_45 : decode cX2_open 45 = .ok (.aload_n 2, 1) := by decide +kernel
theorem dX2_open_46 : decode cX2_open 46 = .ok (.aastore, 1) := by decide +kernel
theorem dX2_open_47 : decode cX2_open 47 = .ok (.aload_n 0, 1) := by decide +kernel
theorem dX2_open_48 : decode cX2_open 48 = .ok (.dup, 1) := by decide +kernel
theorem dX2_open_49 : decode cX2_open 49 = .ok (.getfield 18, 3) := by decide +kernel
theorem dX2_open_52 : decode cX2_open 52 = .ok (.iconst 1, 1) := by decide +kernel
theorem dX2_open_53 : decode cX2_open 53 = .ok (.iadd, 1) := by decide +kernel
theorem dX2_open_54 : decode cX2_open 54 = .ok (.putfield 18, 3) := by decide +kernel
theorem dX2_open_57 : decode cX2_open 57 = .ok (.aload_n 2, 1) := by decide +kernel
theorem dX2_open_58 : decode cX2_open 58 = .ok (.areturn, 1) := by decide +kernel
theorem dX2_close_0 : decode cX2_close 0 = .ok (.aload_n 0, 1) := by decide +kernel
theorem dX2_close_1 : decode cX2_close 1 = .ok (.getfield 11, 3) := by decide +kernel
theorem dX2_close_4 : decode cX2_close 4 = .ok (.iload_n 1, 1) := by decide +kernel
theorem dX2_close_5 : decode cX2_close 5 = .ok (.aaload, 1) := by decide +kernel
theorem dX2_close_6 : decode cX2_close 6 = .ok (.astore_n 2, 1) := by decide +kernel
theorem dX2_close_7 : decode cX2_close 7 = .ok (.iload_n 1, 1) := by decide +kernel
theorem dX2_close_8 : decode cX2_close 8 = .ok (.istore_n 3, 1) := by decide +kernel
theorem dX2_close_9 : decode cX2_close 9 = .ok (.iload_n 3, 1) := by decide +kernel
theorem dX2_close_10 : decode cX2_close 10 = .ok (.aload_n 0, 1) := by decide +kernel
theorem dX2_close_11 : decode cX2_close 11 = .ok (.getfield 18, 3) := by decide +kernel
theorem dX2_close_14 : decode cX2_close 14 = .ok (.iconst 1, 1) := by decide +kernel
theorem dX2_close_15 : decode cX2_close 15 = .ok (.isub, 1) := by decide +kernel
theorem dX2_close_16 : decode cX2_close 16 = .ok (.if_icmp .ge 23, 3) := by decide +kernel
theorem dX2_close_19 : decode cX2_close 19 = .ok (.aload_n 0, 1) := by decide +kernel
theorem dX2_close_20 : decode cX2_close 20 = .ok (.getfield 11, 3) := by decide +kernel
theorem dX2_close_23 : decode cX2_close 23 = .ok (.iload_n 3, 1) := by decide +kernel
theorem dX2_close_24 : decode cX2_close 24 = .ok (.aload_n 0, 1) := by decide +kernel
theorem dX2_close_25 : decode cX2_close 25 = .ok (.getfield 11, 3) := by decide +kernel
theorem dX2_close_28 : decode cX2_close 28 = .ok (.iload_n 3, 1) := by decide +kernel
theorem dX2_close_29 : decode cX2_close 29 = .ok (.iconst 1, 1) := by decide +kernel
theorem dX2_close_30 : decode cX2_close 30 = .ok (.iadd, 1) := by decide +kernel
theorem dX2_close_31 : decode cX2_close 31 = .ok (.aaload, 1) := by decide +kernel
theorem dX2_close_32 : decode cX2_close 32 = .ok (.aastore, 1) := by decide +kernel
theorem dX2_close_33 : decode cX2_close 33 = .ok (.iinc 3 1, 3) := by decide +kernel
theorem dX2_close_36 : decode cX2_close 36 = .ok (.goto (-27), 3) := by decide +kernel
theorem dX2_close_39 : decode cX2_close 39 = .ok (.aload_n 0, 1) := by decide +kernel
theorem dX2_close_40 : decode cX2_close 40 = .ok (.dup, 1) := by decide +kernel
theorem dX2_close_41 : decode cX2_close 41 = .ok (.getfield 18, 3) := by decide +kernel
theorem dX2_close_44 : decode cX2_close 44 = .ok (.iconst 1, 1) := by decide +kernel
theorem dX2_close_45 : decode cX2_close 45 = .ok (.isub, 1) := by decide +kernel
theorem dX2_close_46 : decode cX2_close 46 = .ok (.putfield 18, 3) := by decide +kernel
theorem dX2_close_49 : decode cX2_close 49 = .ok (.aload_n 0, 1) := by decide +kernel
theorem dX2_close_50 : decode cX2_close 50 = .ok (.getfield 11, 3) := by decide +kernel
theorem dX2_close_53 : decode cX2_close 53 = .ok (.aload_n 0, 1) := by decide +kernel
theorem dX2_close_54 : decode cX2_close 54 = .ok (.getfield 18, 3) := by decide +kernel
theorem dX2_close_57 : decode cX2_close 57 = .ok (.aload_n 2, 1) := by decide +kernel
theorem dX2_close_58 : decode cX2_close 58 = .ok (.aastore, 1) := by decide +kernel
theorem dX2_close_59 : decode cX2_close 59 = .ok (.return_, 1) := by decide +kernel
theorem dX3_init_0 : decode cX3_init 0 = .ok (.aload_n 0, 1) := by decide +kernel
theorem dX3_init_1 : decode cX3_init 1 = .ok (.invokespecial 3, 3) := by decide +kernel
theorem dX3_init_4 : decode cX3_init 4 = .ok (.aload_n 0, 1) := by decide +kernel
theorem dX3_init_5 : decode cX3_init 5 = .ok (.sipush 160, 3) := by decide +kernel
theorem dX3_init_8 : decode cX3_init 8 = .ok (.newarray .int, 2) := by decide +kernel
theorem dX3_init_10 : decode cX3_init 10 = .ok (.putfield 9, 3) := by decide +kernel
theorem dX3_init_13 : decode cX3_init 13 = .ok (.aload_n 0, 1) := by decide +kernel
theorem dX3_init_14 : decode cX3_init 14 = .ok (.iconst 0, 1) := by decide +kernel
theorem dX3_init_15 : decode cX3_init 15 = .ok (.putfield 15, 3) := by decide +kernel
theorem dX3_init_18 : decode cX3_init 18 = .ok (.return_, 1) := by decide +kernel
theorem dX3_append_0 : decode cX3_append 0 = .ok (.iconst 0, 1) := by decide +kernel
theorem dX3_append_1 : decode cX3_append 1 = .ok (.istore 4, 2) := by decide +kernel
theorem dX3_append_3 : decode cX3_append 3 = .ok (.iload 4, 2) := by decide +kernel
theorem dX3_append_5 : decode cX3_append 5 = .ok (.iload_n 3, 1) := by decide +kernel
theorem dX3_append_6 : decode cX3_append 6 = .ok (.if_icmp .ge 45, 3) := by decide +kernel
theorem dX3_append_9 : decode cX3_append 9 = .ok (.aload_n 0, 1) := by decide +kernel
theorem dX3_append_10 : decode cX3_append 10 = .ok (.getfield 15, 3) := by decide +kernel
theorem dX3_append_13 : decode cX3_append 13 = .ok (.sipush 160, 3) := by decide +kernel
theorem dX3_append_16 : decode cX3_append 16 = .ok (.if_icmp .ge 35, 3) := by decide +kernel
theorem dX3_append_19 : decode cX3_append 19 = .ok (.aload_n 0, 1) := by decide +kernel
theorem dX3_append_20 : decode cX3_append 20 = .ok (.getfield 9, 3) := by decide +kernel
theorem dX3_append_23 : decode cX3_append 23 = .ok (.aload_n 0, 1) := by decide +kernel
theorem dX3_append_24 : decode cX3_append 24 = .ok (.getfield 15, 3) := by decide +kernel
theorem dX3_append_27 : decode cX3_append 27 = .ok (.lload_n 1, 1) := by decide +kernel
theorem dX3_append_28 : decode cX3_append 28 = .ok (.iload_n 3, 1) := by decide +kernel
theorem dX3_append_29 : decode cX3_append 29 = .ok (.iload 4, 2) := by decide +kernel
theorem dX3_append_31 : decode cX3_append 31 = .ok (.invokestatic 19, 3) := by decide +kernel
theorem dX3_append_34 : decode cX3_append 34 = .ok (.iastore, 1) := by decide +kernel
theorem dX3_append_35 : decode cX3_append 35 = .ok (.aload_n 0, 1) := by decide +kernel
theorem dX3_append_36 : decode cX3_append 36 = .ok (.dup, 1) := by decide +kernel
theorem dX3_append_37 : decode cX3_append 37 = .ok (.getfield 15, 3) := by decide +kernel
theorem dX3_append_40 : decode cX3_append 40 = .ok (.iconst 1, 1) := by decide +kernel
theorem dX3_append_41 : decode cX3_append 41 = .ok (.iadd, 1) := by decide +kernel
theorem dX3_append_42 : decode cX3_append 42 = .ok (.putfield 15, 3) := by decide +kernel
theorem dX3_append_45 : decode cX3_append 45 = .ok (.iinc 4 1, 3) := by decide +kernel
theorem dX3_append_48 : decode cX3_append 48 = .ok (.goto (-45), 3) := by decide +kernel
theorem dX3_append_51 : decode cX3_append 51 = .ok (.return_, 1) := by decide +kernel
theorem dX3_covers_0 : decode cX3_covers 0 = .ok (.iload_n 1, 1) := by decide +kernel
theorem dX3_covers_1 : decode cX3_covers 1 = .ok (.iconst 1, 1) := by decide +kernel
theorem dX3_covers_2 : decode cX3_covers 2 = .ok (.if_icmp .lt 19, 3) := by decide +kernel
theorem dX3_covers_5 : decode cX3_covers 5 = .ok (.iload_n 1, 1) := by decide +kernel
theorem dX3_covers_6 : decode cX3_covers 6 = .ok (.aload_n 0, 1) := by decide +kernel
theorem dX3_covers_7 : decode cX3_covers 7 = .ok (.getfield 15, 3) := by decide +kernel
theorem dX3_covers_10 : decode cX3_covers 10 = .ok (.iload_n 2, 1) := by decide +kernel
theorem dX3_covers_11 : decode cX3_covers 11 = .ok (.isub, 1) := by decide +kernel
theorem dX3_covers_12 : decode cX3_covers 12 = .ok (.iconst 1, 1) := by decide +kernel
theorem dX3_covers_13 : decode cX3_covers 13 = .ok (.iadd, 1) := by decide +kernel
theorem dX3_covers_14 : decode cX3_covers 14 = .ok (.if_icmp .gt 7, 3) := by decide +kernel
theorem dX3_covers_17 : decode cX3_covers 17 = .ok (.iconst 1, 1) := by decide +kernel
theorem dX3_covers_18 : decode cX3_covers 18 = .ok (.goto 4, 3) := by decide +kernel
theorem dX3_covers_21 : decode cX3_covers 21 = .ok (.iconst 0, 1) := by decide +kernel
theorem dX3_covers_22 : decode cX3_covers 22 = .ok (.ireturn, 1) := by decide +kernel
theorem dX3_packed_0 : decode cX3_packed 0 = .ok (.iconst 0, 1) := by decide +kernel
theorem dX3_packed_1 : decode cX3_packed 1 = .ok (.istore_n 3, 1) := by decide +kernel
theorem dX3_packed_2 : decode cX3_packed 2 = .ok (.iconst 0, 1) := by decide +kernel
theorem dX3_packed_3 : decode cX3_packed 3 = .ok (.istore 4, 2) := by decide +kernel
theorem dX3_packed_5 : decode cX3_packed 5 = .ok (.iload 4, 2) := by decide +kernel
theorem dX3_packed_7 : decode cX3_packed 7 = .ok (.iload_n 2, 1) := by decide +kernel
theorem dX3_packed_8 : decode cX3_packed 8 = .ok (.if_icmp .ge 25, 3) := by decide +kernel
theorem dX3_packed_11 : decode cX3_packed 11 = .ok (.iload_n 3, 1) := by decide +kernel
theorem dX3_packed_12 : decode cX3_packed 12 = .ok (.iconst 2, 1) := by decide +kernel
theorem dX3_packed_13 : decode cX3_packed 13 = .ok (.ishl, 1) := by decide +kernel
theorem dX3_packed_14 : decode cX3_packed 14 = .ok (.aload_n 0, 1) := by decide +kernel
theorem dX3_packed_15 : decode cX3_packed 15 = .ok (.getfield 9, 3) := by decide +kernel
theorem dX3_packed_18 : decode cX3_packed 18 = .ok (.iload_n 1, 1) := by decide +kernel
theorem dX3_packed_19 : decode cX3_packed 19 = .ok (.iconst 1, 1) := by decide +kernel
theorem dX3_packed_20 : decode cX3_packed 20 = .ok (.isub, 1) := by decide +kernel
theorem dX3_packed_21 : decode cX3_packed 21 = .ok (.iload 4, 2) := by decide +kernel
theorem dX3_packed_23 : decode cX3_packed 23 = .ok (.iadd, 1) := by decide +kernel
theorem dX3_packed_24 : decode cX3_packed 24 = .ok (.iaload, 1) := by decide +kernel
theorem dX3_packed_25 : decode cX3_packed 25 = .ok (.ior, 1) := by decide +kernel
theorem dX3_packed_26 : decode cX3_packed 26 = .ok (.istore_n 3, 1) := by decide +kernel
theorem dX3_packed_27 : decode cX3_packed 27 = .ok (.iinc 4 1, 3) := by decide +kernel
theorem dX3_packed_30 : decode cX3_packed 30 = .ok (.goto (-25), 3) := by decide +kernel
theorem dX3_packed_33 : decode cX3_packed 33 = .ok (.iload_n 3, 1) := by decide +kernel
theorem dX3_packed_34 : decode cX3_packed 34 = .ok (.ireturn, 1) := by decide +kernel
theorem dX4_init_0 : decode cX4_init 0 = .ok (.aload_n 0, 1) := by decide +kernel
theorem dX4_init_1 : decode cX4_init 1 = .ok (.invokespecial 3, 3) := by decide +kernel
theorem dX4_init_4 : decode cX4_init 4 = .ok (.aload_n 0, 1) := by decide +kernel
theorem dX4_init_5 : decode cX4_init 5 = .ok (.iconst 4, 1) := by decide +kernel
theorem dX4_init_6 : decode cX4_init 6 = .ok (.newarray .int, 2) := by decide +kernel
theorem dX4_init_8 : decode cX4_init 8 = .ok (.putfield 9, 3) := by decide +kernel
theorem dX4_init_11 : decode cX4_init 11 = .ok (.aload_n 0, 1) := by decide +kernel
theorem dX4_init_12 : decode cX4_init 12 = .ok (.iconst 4, 1) := by decide +kernel
theorem dX4_init_13 : decode cX4_init 13 = .ok (.newarray .int, 2) := by decide +kernel
theorem dX4_init_15 : decode cX4_init 15 = .ok (.putfield 15, 3) := by decide +kernel
theorem dX4_init_18 : decode cX4_init 18 = .ok (.aload_n 0, 1) := by decide +kernel
theorem dX4_init_19 : decode cX4_init 19 = .ok (.iconst 4, 1) := by decide +kernel
theorem dX4_init_20 : decode cX4_init 20 = .ok (.newarray .int, 2) := by decide +kernel
theorem dX4_init_22 : decode cX4_init 22 = .ok (.putfield 18, 3) := by decide +kernel
theorem dX4_init_25 : decode cX4_init 25 = .ok (.aload_n 0, 1) := by decide +kernel
theorem dX4_init_26 : decode cX4_init 26 = .ok (.iconst 4, 1) := by decide +kernel
theorem dX4_init_27 : decode cX4_init 27 = .ok (.newarray .int, 2) := by decide +kernel
theorem dX4_init_29 : decode cX4_init 29 = .ok (.putfield 21, 3) := by decide +kernel
theorem dX4_init_32 : decode cX4_init 32 = .ok (.aload_n 0, 1) := by decide +kernel
theorem dX4_init_33 : decode cX4_init 33 = .ok (.iconst 2, 1) := by decide +kernel
theorem dX4_init_34 : decode cX4_init 34 = .ok (.newarray .boolean, 2) := by decide +kernel
theorem dX4_init_36 : decode cX4_init 36 = .ok (.putfield 24, 3) := by decide +kernel
theorem dX4_init_39 : decode cX4_init 39 = .ok (.aload_n 0, 1) := by decide +kernel
theorem dX4_init_40 : decode cX4_init 40 = .ok (.bipush 20, 2) := by decide +kernel
theorem dX4_init_42 : decode cX4_init 42 = .ok (.newarray .int, 2) := by decide +kernel
theorem dX4_init_44 : decode cX4_init 44 = .ok (.putfield 28, 3) := by decide +kernel
theorem dX4_init_47 : decode cX4_init 47 = .ok (.return_, 1) := by decide +kernel
theorem dX4_clear_0 : decode cX4_clear 0 = .ok (.aload_n 0, 1) := by decide +kernel
theorem dX4_clear_1 : decode cX4_clear 1 = .ok (.iconst 0, 1) := by decide +kernel
theorem dX4_clear_2 : decode cX4_clear 2 = .ok (.putfield 31, 3) := by decide +kernel
theorem dX4_clear_5 : decode cX4_clear 5 = .ok (.aload_n 0, 1) := by decide +kernel
theorem dX4_clear_6 : decode cX4_clear 6 = .ok (.iconst 0, 1) := by decide +kernel
theorem dX4_clear_7 : decode cX4_clear 7 = .ok (.putfield 35, 3) := by decide +kernel
theorem dX4_clear_10 : decode cX4_clear 10 = .ok (.aload_n 0, 1) := by decide +kernel
theorem dX4_clear_11 : decode cX4_clear 11 = .ok (.iconst 0, 1) := by decide +kernel
theorem dX4_clear_12 : decode cX4_clear 12 = .ok (.putfield 38, 3) := by decide +kernel
theorem dX4_clear_15 : decode cX4_clear 15 = .ok (.iconst 0, 1) := by decide +kernel
theorem dX4_clear_16 : decode cX4_clear 16 = .ok (.istore_n 1, 1) := by decide +kernel
theorem dX4_clear_17 : decode cX4_clear 17 = .ok (.iload_n 1, 1) := by decide +kernel
theorem dX4_clear_18 : decode cX4_clear 18 = .ok (.iconst 4, 1) := by decide +kernel
theorem dX4_clear_19 : decode cX4_clear 19 = .ok (.if_icmp .ge 16, 3) := by decide +kernel
theorem dX4_clear_22 : decode cX4_clear 22 = .ok (.aload_n 0, 1) := by decide +kernel
theorem dX4_clear_23 : decode cX4_clear 23 = .ok (.getfield 21, 3) := by decide +kernel
theorem dX4_clear_26 : decode cX4_clear 26 = .ok (.iload_n 1, 1) := by decide +kernel
theorem dX4_clear_27 : decode cX4_clear 27 = .ok (.iconst (-1), 1) := by decide +kernel
theorem dX4_clear_28 : decode cX4_clear 28 = .ok (.iastore, 1) := by decide +kernel
theorem dX4_clear_29 : decode cX4_clear 29 = .ok (.iinc 1 1, 3) := by decide +kernel
theorem dX4_clear_32 : decode cX4_clear 32 = .ok (.goto (-15), 3) := by decide +kernel
theorem dX4_clear_35 : decode cX4_clear 35 = .ok (.iconst 0, 1) := by decide +kernel
theorem dX4_clear_36 : decode cX4_clear 36 = .ok (.istore_n 1, 1) := by decide +kernel
theorem dX4_clear_37 : decode cX4_clear 37 = .ok (.iload_n 1, 1) := by decide +kernel
theorem dX4_clear_38 : decode cX4_clear 38 = .ok (.iconst 2, 1) := by decide +kernel
theorem dX4_clear_39 : decode cX4_clear 39 = .ok (.if_icmp .ge 16, 3) := by decide +kernel
theorem dX4_clear_42 : decode cX4_clear 42 = .ok (.aload_n 0, 1) := by decide +kernel
theorem dX4_clear_43 : decode cX4_clear 43 = .ok (.getfield 24, 3) := by decide +kernel
theorem dX4_clear_46 : decode cX4_clear 46 = .ok (.iload_n 1, 1) := by decide +kernel
theorem dX4_clear_47 : decode cX4_clear 47 = .ok (.iconst 0, 1) := by decide +kernel
theorem dX4_clear_48 : decode cX4_clear 48 = .ok (.bastore, 1) := by decide +kernel
theorem dX4_clear_49 : decode cX4_clear 49 = .ok (.iinc 1 1, 3) := by decide +kernel
theorem dX4_clear_52 : decode cX4_clear 52 = .ok (.goto (-15), 3) := by decide +kernel
theorem dX4_clear_55 : decode cX4_clear 55 = .ok (.aload_n 0, 1) := by decide +kernel
theorem dX4_clear_56 : decode cX4_clear 56 = .ok (.iconst 0, 1) := by decide +kernel
theorem dX4_clear_57 : decode cX4_clear 57 = .ok (.invokevirtual 41, 3) := by decide +kernel
theorem dX4_clear_60 : decode cX4_clear 60 = .ok (.return_, 1) := by decide +kernel
theorem dX4_fillLikelihoods_0 : decode cX4_fillLikelihoods 0 = .ok (.iconst 0, 1) := by decide +kernel
theorem dX4_fillLikelihoods_1 : decode cX4_fillLikelihoods 1 = .ok (.istore_n 2, 1) := by decide +kernel
theorem dX4_fillLikelihoods_2 : decode cX4_fillLikelihoods 2 = .ok (.iload_n 2, 1) := by decide +kernel
theorem dX4_fillLikelihoods_3 : decode cX4_fillLikelihoods 3 = .ok (.bipush 20, 2) := by decide +kernel
theorem dX4_fillLikelihoods_5 : decode cX4_fillLikelihoods 5 = .ok (.if_icmp .ge 16, 3) := by decide +kernel
theorem dX4_fillLikelihoods_8 : decode cX4_fillLikelihoods 8 = .ok (.aload_n 0, 1) := by decide +kernel
theorem dX4_fillLikelihoods_9 : decode cX4_fillLikelihoods 9 = .ok (.getfield 28, 3) := by decide +kernel
theorem dX4_fillLikelihoods_12 : decode cX4_fillLikelihoods 12 = .ok (.iload_n 2, 1) := by decide +kernel
theorem dX4_fillLikelihoods_13 : decode cX4_fillLikelihoods 13 = .ok (.iload_n 1, 1) := by decide +kernel
theorem dX4_fillLikelihoods_14 : decode cX4_fillLikelihoods 14 = .ok (.iastore, 1) := by decide +kernel
theorem dX4_fillLikelihoods_15 : decode cX4_fillLikelihoods 15 = .ok (.iinc 2 1, 3) := by decide +kernel
theorem dX4_fillLikelihoods_18 : decode cX4_fillLikelihoods 18 = .ok (.goto (-16), 3) := by decide +kernel
theorem dX4_fillLikelihoods_21 : decode cX4_fillLikelihoods 21 = .ok (.return_, 1) := by decide +kernel
theorem dX4_copy_0 : decode cX4_copy 0 = .ok (.aload_n 0, 1) := by decide +kernel
theorem dX4_copy_1 : decode cX4_copy 1 = .ok (.aload_n 1, 1) := by decide +kernel
theorem dX4_copy_2 : decode cX4_copy 2 = .ok (.getfield 31, 3) := by decide +kernel
theorem dX4_copy_5 : decode cX4_copy 5 = .ok (.putfield 31, 3) := by decide +kernel
theorem dX4_copy_8 : decode cX4_copy 8 = .ok (.aload_n 0, 1) := by decide +kernel
theorem dX4_copy_9 : decode cX4_copy 9 = .ok (.aload_n 1, 1) := by decide +kernel
theorem dX4_copy_10 : decode cX4_copy 10 = .ok (.getfield 35, 3) := by decide +kernel
theorem dX4_copy_13 : decode cX4_copy 13 = .ok (.putfield 35, 3) := by decide +kernel
theorem dX4_copy_16 : decode cX4_copy 16 = .ok (.aload_n 0, 1) := by decide +kernel
theorem dX4_copy_17 : decode cX4_copy 17 = .ok (.aload_n 1, 1) := by decide +kernel
theorem dX4_copy_18 : decode cX4_copy 18 = .ok (.getfield 38, 3) := by decide +kernel
theorem dX4_copy_21 : decode cX4_copy 21 = .ok (.putfield 38, 3) := by decide +kernel
theorem dX4_copy_24 : decode cX4_copy 24 = .ok (.aload_n 1, 1) := by decide +kernel
theorem dX4_copy_25 : decode cX4_copy 25 = .ok (.getfield 9, 3) := by decide +kernel
theorem dX4_copy_28 : decode cX4_copy 28 = .ok (.iconst 0, 1) := by decide +kernel
theorem dX4_copy_29 : decode cX4_copy 29 = .ok (.aload_n 0, 1) := by decide +kernel
theorem dX4_copy_30 : decode cX4_copy 30 = .ok (.getfield 9, 3) := by decide +kernel
theorem dX4_copy_33 : decode cX4_copy 33 = .ok (.iconst 0, 1) := by decide +kernel
theorem dX4_copy_34 : decode cX4_copy 34 = .ok (.iconst 4, 1) := by decide +kernel
theorem dX4_copy_35 : decode cX4_copy 35 = .ok (.invokestatic 45, 3) := by decide +kernel
theorem dX4_copy_38 : decode cX4_copy 38 = .ok (.aload_n 1, 1) := by decide +kernel
theorem dX4_copy_39 : decode cX4_copy 39 = .ok (.getfield 15, 3) := by decide +kernel
theorem dX4_copy_42 : decode cX4_copy 42 = .ok (.iconst 0, 1) := by decide +kernel
theorem dX4_copy_43 : decode cX4_copy 43 = .ok (.aload_n 0, 1) := by decide +kernel
theorem dX4_copy_44 : decode cX4_copy 44 = .ok (.getfield 15, 3) := by decide +kernel
theorem dX4_copy_47 : decode cX4_copy 47 = .ok (.iconst 0, 1) := by decide +kernel
theorem dX4_copy_48 : decode cX4_copy 48 = .ok (.iconst 4, 1) := by decide +kernel
theorem dX4_copy_49 : decode cX4_copy 49 = .ok (.invokestatic 45, 3) := by decide +kernel
theorem dX4_copy_52 : decode cX4_copy 52 = .ok (.aload_n 1, 1) := by decide +kernel
theorem dX4_copy_53 : decode cX4_copy 53 = .ok (.getfield 18, 3) := by decide +kernel
theorem dX4_copy_56 : decode cX4_copy 56 = .ok (.iconst 0, 1) := by decide +kernel
theorem dX4_copy_57 : decode cX4_copy 57 = .ok (.aload_n 0, 1) := by decide +kernel
theorem dX4_copy_58 : decode cX4_copy 58 = .ok (.getfield 18, 3) := by decide +kernel
theorem dX4_copy_61 : decode cX4_copy 61 = .ok (.iconst 0, 1) := by decide +kernel
theorem dX4_copy_62 : decode cX4_copy 62 = .ok (.iconst 4, 1) := by decide +kernel
theorem dX4_copy_63 : decode cX4_copy 63 = .ok (.invokestatic 45, 3) := by decide +kernel
theorem dX4_copy_66 : decode cX4_copy 66 = .ok (.aload_n 1, 1) := by decide +kernel
theorem dX4_copy_67 : decode cX4_copy 67 = .ok (.getfield 21, 3) := by decide +kernel
theorem dX4_copy_70 : decode cX4_copy 70 = .ok (.iconst 0, 1) := by decide +kernel
theorem dX4_copy_71 : decode cX4_copy 71 = .ok (.aload_n 0, 1) := by decide +kernel
theorem dX4_copy_72 : decode cX4_copy 72 = .ok (.getfield 21, 3) := by decide +kernel
theorem dX4_copy_75 : decode cX4_copy 75 = .ok (.iconst 0, 1) := by decide +kernel
theorem dX4_copy_76 : decode cX4_copy 76 = .ok (.iconst 4, 1) := by decide +kernel
theorem dX4_copy_77 : decode cX4_copy 77 = .ok (.invokestatic 45, 3) := by decide +kernel
theorem dX4_copy_80 : decode cX4_copy 80 = .ok (.aload_n 1, 1) := by decide +kernel
theorem dX4_copy_81 : decode cX4_copy 81 = .ok (.getfield 28, 3) := by decide +kernel
theorem dX4_copy_84 : decode cX4_copy 84 = .ok (.iconst 0, 1) := by decide +kernel
theorem dX4_copy_85 : decode cX4_copy 85 = .ok (.aload_n 0, 1) := by decide +kernel
theorem dX4_copy_86 : decode cX4_copy 86 = .ok (.getfield 28, 3) := by decide +kernel
theorem dX4_copy_89 : decode cX4_copy 89 = .ok (.iconst 0, 1) := by decide +kernel
theorem dX4_copy_90 : decode cX4_copy 90 = .ok (.bipush 20, 2) := by decide +kernel
theorem dX4_copy_92 : decode cX4_copy 92 = .ok (.invokestatic 45, 3) := by decide +kernel
theorem dX4_copy_95 : decode cX4_copy 95 = .ok (.iconst 0, 1) := by decide +kernel
theorem dX4_copy_96 : decode cX4_copy 96 = .ok (.istore_n 2, 1) := by decide +kernel
theorem dX4_copy_97 : decode cX4_copy 97 = .ok (.iload_n 2, 1) := by decide +kernel
theorem dX4_copy_98 : decode cX4_copy 98 = .ok (.iconst 2, 1) := by decide +kernel
theorem dX4_copy_99 : decode cX4_copy 99 = .ok (.if_icmp .ge 21, 3) := by decide +kernel
theorem dX4_copy_102 : decode cX4_copy 102 = .ok (.aload_n 0, 1) := by decide +kernel
theorem dX4_copy_103 : decode cX4_copy 103 = .ok (.getfield 24, 3) := by decide +kernel
theorem dX4_copy_106 : decode cX4_copy 106 = .ok (.iload_n 2, 1) := by decide +kernel
theorem dX4_copy_107 : decode cX4_copy 107 = .ok (.aload_n 1, 1) := by decide +kernel
theorem dX4_copy_108 : decode cX4_copy 108 = .ok (.getfield 24, 3) := by decide +kernel
theorem dX4_copy_111 : decode cX4_copy 111 = .ok (.iload_n 2, 1) := by decide +kernel
theorem dX4_copy_112 : decode cX4_copy 112 = .ok (.baload, 1) := by decide +kernel
theorem dX4_copy_113 : decode cX4_copy 113 = .ok (.bastore, 1) := by decide +kernel
theorem dX4_copy_114 : decode cX4_copy 114 = .ok (.iinc 2 1, 3) := by decide +kernel
theorem dX4_copy_117 : decode cX4_copy 117 = .ok (.goto (-20), 3) := by decide +kernel
theorem dX4_copy_120 : decode cX4_copy 120 = .ok (.return_, 1) := by decide +kernel
theorem dX4_appendAllele_0 : decode cX4_appendAllele 0 = .ok (.aload_n 0, 1) := by decide +kernel
theorem dX4_appendAllele_1 : decode cX4_appendAllele 1 = .ok (.getfield 38, 3) := by decide +kernel
theorem dX4_appendAllele_4 : decode cX4_appendAllele 4 = .ok (.iconst 4, 1) := by decide +kernel
theorem dX4_appendAllele_5 : decode cX4_appendAllele 5 = .ok (.if_icmp .ge 43, 3) := by decide +kernel
theorem dX4_appendAllele_8 : decode cX4_appendAllele 8 = .ok (.aload_n 0, 1) := by decide +kernel
theorem dX4_appendAllele_9 : decode cX4_appendAllele 9 = .ok (.getfield 9, 3) := by decide +kernel
theorem dX4_appendAllele_12 : decode cX4_appendAllele 12 = .ok (.aload_n 0, 1) := by decide +kernel
theorem dX4_appendAllele_13 : decode cX4_appendAllele 13 = .ok (.getfield 38, 3) := by decide +kernel
theorem dX4_appendAllele_16 : decode cX4_appendAllele 16 = .ok (.iload_n 1, 1) := by decide +kernel
theorem dX4_appendAllele_17 : decode cX4_appendAllele 17 = .ok (.iastore, 1) := by decide +kernel
theorem dX4_appendAllele_18 : decode cX4_appendAllele 18 = .ok (.aload_n 0, 1) := by decide +kernel
theorem dX4_appendAllele_19 : decode cX4_appendAllele 19 = .ok (.getfield 15, 3) := by decide +kernel
theorem dX4_appendAllele_22 : decode cX4_appendAllele 22 = .ok (.aload_n 0, 1) := by decide +kernel
theorem dX4_appendAllele_23 : decode cX4_appendAllele 23 = .ok (.getfield 38, 3) := by decide +kernel
theorem dX4_appendAllele_26 : decode cX4_appendAllele 26 = .ok (.iload_n 2, 1) := by decide +kernel
theorem dX4_appendAllele_27 : decode cX4_appendAllele 27 = .ok (.iastore, 1) := by decide +kernel
theorem dX4_appendAllele_28 : decode cX4_appendAllele 28 = .ok (.aload_n 0, 1) := by decide +kernel
theorem dX4_appendAllele_29 : decode cX4_appendAllele 29 = .ok (.getfield 18, 3) := by decide +kernel
theorem dX4_appendAllele_32 : decode cX4_appendAllele 32 = .ok (.aload_n 0, 1) := by decide +kernel
theorem dX4_appendAllele_33 : decode cX4_appendAllele 33 = .ok (.getfield 38, 3) := by decide +kernel
theorem dX4_appendAllele_36 : decode cX4_appendAllele 36 = .ok (.iconst 0, 1) := by decide +kernel
theorem dX4_appendAllele_37 : decode cX4_appendAllele 37 = .ok (.iastore, 1) := by decide +kernel
theorem dX4_appendAllele_38 : decode cX4_appendAllele 38 = .ok (.aload_n 0, 1) := by decide +kernel
theorem dX4_appendAllele_39 : decode cX4_appendAllele 39 = .ok (.dup, 1) := by decide +kernel
theorem dX4_appendAllele_40 : decode cX4_appendAllele 40 = .ok (.getfield 38, 3) := by decide +kernel
theorem dX4_appendAllele_43 : decode cX4_appendAllele 43 = .ok (.iconst 1, 1) := by decide +kernel
theorem dX4_appendAllele_44 : decode cX4_appendAllele 44 = .ok (.iadd, 1) := by decide +kernel
theorem dX4_appendAllele_45 : decode cX4_appendAllele 45 = .ok (.putfield 38, 3) := by decide +kernel
theorem dX4_appendAllele_48 : decode cX4_appendAllele 48 = .ok (.return_, 1) := by decide +kernel
theorem dX4_find_0 : decode cX4_find 0 = .ok (.iconst 0, 1) := by decide +kernel
theorem dX4_find_1 : decode cX4_find 1 = .ok (.istore_n 3, 1) := by decide +kernel
theorem dX4_find_2 : decode cX4_find 2 = .ok (.iload_n 3, 1) := by decide +kernel
theorem dX4_find_3 : decode cX4_find 3 = .ok (.aload_n 0, 1) := by decide +kernel
theorem dX4_find_4 : decode cX4_find 4 = .ok (.getfield 38, 3) := by decide +kernel
theorem dX4_find_7 : decode cX4_find 7 = .ok (.if_icmp .ge 31, 3) := by decide +kernel
theorem dX4_find_10 : decode cX4_find 10 = .ok (.aload_n 0, 1) := by decide +kernel
theorem dX4_find_11 : decode cX4_find 11 = .ok (.getfield 9, 3) := by decide +kernel
theorem dX4_find_14 : decode cX4_find 14 = .ok (.iload_n 3, 1) := by decide +kernel
theorem dX4_find_15 : decode cX4_find 15 = .ok (.iaload, 1) := by decide +kernel
theorem dX4_find_16 : decode cX4_find 16 = .ok (.iload_n 1, 1) := by decide +kernel
theorem dX4_find_17 : decode cX4_find 17 = .ok (.if_icmp .ne 15, 3) := by decide +kernel
theorem dX4_find_20 : decode cX4_find 20 = .ok (.aload_n 0, 1) := by decide +kernel
theorem dX4_find_21 : decode cX4_find 21 = .ok (.getfield 15, 3) := by decide +kernel
theorem dX4_find_24 : decode cX4_find 24 = .ok (.iload_n 3, 1) := by decide +kernel
theorem dX4_find_25 : decode cX4_find 25 = .ok (.iaload, 1) := by decide +kernel
theorem dX4_find_26 : decode cX4_find 26 = .ok (.iload_n 2, 1) := by decide +kernel
theorem dX4_find_27 : decode cX4_find 27 = .ok (.if_icmp .ne 5, 3) := by decide +kernel
theorem dX4_find_30 : decode cX4_find 30 = .ok (.iload_n 3, 1) := by decide +kernel
theorem dX4_find_31 : decode cX4_find 31 = .ok (.ireturn, 1) := by decide +kernel
theorem dX4_find_32 : decode cX4_find 32 = .ok (.iinc 3 1, 3) := by decide +kernel
theorem dX4_find_35 : decode cX4_find 35 = .ok (.goto (-33), 3) := by decide +kernel
theorem dX4_find_38 : decode cX4_find 38 = .ok (.iconst (-1), 1) := by decide +kernel
theorem dX4_find_39 : decode cX4_find 39 = .ok (.ireturn, 1) := by decide +kernel
theorem dX4_hasAllele_0 : decode cX4_hasAllele 0 = .ok (.iload_n 1, 1) := by decide +kernel
theorem dX4_hasAllele_1 : decode cX4_hasAllele 1 = .ok (.ifCond .lt 15, 3) := by decide +kernel
theorem dX4_hasAllele_4 : decode cX4_hasAllele 4 = .ok (.iload_n 1, 1) := by decide +kernel
theorem dX4_hasAllele_5 : decode cX4_hasAllele 5 = .ok (.aload_n 0, 1) := by decide +kernel
theorem dX4_hasAllele_6 : decode cX4_hasAllele 6 = .ok (.getfield 38, 3) := by decide +kernel
theorem dX4_hasAllele_9 : decode cX4_hasAllele 9 = .ok (.if_icmp .ge 7, 3) := by decide +kernel
theorem dX4_hasAllele_12 : decode cX4_hasAllele 12 = .ok (.iconst 1, 1) := by decide +kernel
theorem dX4_hasAllele_13 : decode cX4_hasAllele 13 = .ok (.goto 4, 3) := by decide +kernel
theorem dX4_hasAllele_16 : decode cX4_hasAllele 16 = .ok (.iconst 0, 1) := by decide +kernel
theorem dX4_hasAllele_17 : decode cX4_hasAllele 17 = .ok (.ireturn, 1) := by decide +kernel
theorem dX4_allowsInGenotype_0 : decode cX4_allowsInGenotype 0 = .ok (.iload_n 1, 1) := by decide +kernel
theorem dX4_allowsInGenotype_1 : decode cX4_allowsInGenotype 1 = .ok (.iconst (-1), 1) := by decide +kernel
theorem dX4_allowsInGenotype_2 : decode cX4_allowsInGenotype 2 = .ok (.if_icmp .eq 11, 3) := by decide +kernel
theorem dX4_allowsInGenotype_5 : decode cX4_allowsInGenotype 5 = .ok (.aload_n 0, 1) := by decide +kernel
theorem dX4_allowsInGenotype_6 : decode cX4_allowsInGenotype 6 = .ok (.iload_n 1, 1) := by decide +kernel
theorem dX4_allowsInGenotype_7 : decode cX4_allowsInGenotype 7 = .ok (.invokevirtual 51, 3) := by decide +kernel
theorem dX4_allowsInGenotype_10 : decode cX4_allowsInGenotype 10 = .ok (.ifCond .eq 7, 3) := by decide +kernel
theorem dX4_allowsInGenotype_13 : decode cX4_allowsInGenotype 13 = .ok (.iconst 1, 1) := by decide +kernel
theorem dX4_allowsInGenotype_14 : decode cX4_allowsInGenotype 14 = .ok (.goto 4, 3) := by decide +kernel
theorem dX4_allowsInGenotype_17 : decode cX4_allowsInGenotype 17 = .ok (.iconst 0, 1) := by decide +kernel
theorem dX4_allowsInGenotype_18 : decode cX4_allowsInGenotype 18 = .ok (.ireturn, 1) := by decide +kernel
theorem dX4_pairs_0 : decode cX4_pairs 0 = .ok (.aload_n 0, 1) := by decide +kernel
theorem dX4_pairs_1 : decode cX4_pairs 1 = .ok (.getfield 38, 3) := by decide +kernel
theorem dX4_pairs_4 : decode cX4_pairs 4 = .ok (.aload_n 0, 1) := by decide +kernel
theorem dX4_pairs_5 : decode cX4_pairs 5 = .ok (.getfield 38, 3) := by decide +kernel
theorem dX4_pairs_8 : decode cX4_pairs 8 = .ok (.iconst 1, 1) := by decide +kernel
theorem dX4_pairs_9 : decode cX4_pairs 9 = .ok (.iadd, 1) := by decide +kernel
theorem dX4_pairs_10 : decode cX4_pairs 10 = .ok (.imul, 1) := by decide +kernel
theorem dX4_pairs_11 : decode cX4_pairs 11 = .ok (.iconst 2, 1) := by decide +kernel
theorem dX4_pairs_12 : decode cX4_pairs 12 = .ok (.idiv, 1) := by decide +kernel
theorem dX4_pairs_13 : decode cX4_pairs 13 = .ok (.ireturn, 1) := by decide +kernel
theorem dX4_lastPlace_0 : decode cX4_lastPlace 0 = .ok (.aload_n 0, 1) := by decide +kernel
theorem dX4_lastPlace_1 : decode cX4_lastPlace 1 = .ok (.getfield 31, 3) := by decide +kernel
theorem dX4_lastPlace_4 : decode cX4_lastPlace 4 = .ok (.aload_n 0, 1) := by decide +kernel
theorem dX4_lastPlace_5 : decode cX4_lastPlace 5 = .ok (.getfield 15, 3) := by decide +kernel
theorem dX4_lastPlace_8 : decode cX4_lastPlace 8 = .ok (.iconst 0, 1) := by decide +kernel
theorem dX4_lastPlace_9 : decode cX4_lastPlace 9 = .ok (.iaload, 1) := by decide +kernel
theorem dX4_lastPlace_10 : decode cX4_lastPlace 10 = .ok (.iadd, 1) := by decide +kernel
theorem dX4_lastPlace_11 : decode cX4_lastPlace 11 = .ok (.iconst 1, 1) := by decide +kernel
theorem dX4_lastPlace_12 : decode cX4_lastPlace 12 = .ok (.isub, 1) := by decide +kernel
theorem dX4_lastPlace_13 : decode cX4_lastPlace 13 = .ok (.ireturn, 1) := by decide +kernel
theorem dX4_spansOneOf_0 : decode cX4_spansOneOf 0 = .ok (.aload_n 0, 1) := by decide +kernel
theorem dX4_spansOneOf_1 : decode cX4_spansOneOf 1 = .ok (.getfield 31, 3) := by decide +kernel
theorem dX4_spansOneOf_4 : decode cX4_spansOneOf 4 = .ok (.iload_n 2, 1) := by decide +kernel
theorem dX4_spansOneOf_5 : decode cX4_spansOneOf 5 = .ok (.if_icmp .gt 15, 3) := by decide +kernel
theorem dX4_spansOneOf_8 : decode cX4_spansOneOf 8 = .ok (.aload_n 0, 1) := by decide +kernel
theorem dX4_spansOneOf_9 : decode cX4_spansOneOf 9 = .ok (.invokevirtual 55, 3) := by decide +kernel
theorem dX4_spansOneOf_12 : decode cX4_spansOneOf 12 = .ok (.iload_n 1, 1) := by decide +kernel
theorem dX4_spansOneOf_13 : decode cX4_spansOneOf 13 = .ok (.if_icmp .lt 7, 3) := by decide +kernel
theorem dX4_spansOneOf_16 : decode cX4_spansOneOf 16 = .ok (.iconst 1, 1) := by decide +kernel
theorem dX4_spansOneOf_17 : decode cX4_spansOneOf 17 = .ok (.goto 4, 3) := by decide +kernel
theorem dX4_spansOneOf_20 : decode cX4_spansOneOf 20 = .ok (.iconst 0, 1) := by decide +kernel
theorem dX4_spansOneOf_21 : decode cX4_spansOneOf 21 = .ok (.ireturn, 1) := by decide +kernel
theorem dX4_bin_0 : decode cX4_bin 0 = .ok (.aload_n 0, 1) := by decide +kernel
theorem dX4_bin_1 : decode cX4_bin 1 = .ok (.invokevirtual 55, 3) := by decide +kernel
theorem dX4_bin_4 : decode cX4_bin 4 = .ok (.istore_n 1, 1) := by decide +kernel
theorem dX4_bin_5 : decode cX4_bin 5 = .ok (.aload_n 0, 1) := by decide +kernel
theorem dX4_bin_6 : decode cX4_bin 6 = .ok (.getfield 31, 3) := by decide +kernel
theorem dX4_bin_9 : decode cX4_bin 9 = .ok (.iconst 3, 1) := by decide +kernel
theorem dX4_bin_10 : decode cX4_bin 10 = .ok (.ishr, 1) := by decide +kernel
theorem dX4_bin_11 : decode cX4_bin 11 = .ok (.iload_n 1, 1) := by decide +kernel
theorem dX4_bin_12 : decode cX4_bin 12 = .ok (.iconst 3, 1) := by decide +kernel
theorem dX4_bin_13 : decode cX4_bin 13 = .ok (.ishr, 1) := by decide +kernel
theorem dX4_bin_14 : decode cX4_bin 14 = .ok (.if_icmp .ne 13, 3) := by decide +kernel
theorem dX4_bin_17 : decode cX4_bin 17 = .ok (.bipush 11, 2) := by decide +kernel
theorem dX4_bin_19 : decode cX4_bin 19 = .ok (.aload_n 0, 1) := by decide +kernel
theorem dX4_bin_20 : decode cX4_bin 20 = .ok (.getfield 31, 3) := by decide +kernel
theorem dX4_bin_23 : decode cX4_bin 23 = .ok (.iconst 3, 1) := by decide +kernel
theorem dX4_bin_24 : decode cX4_bin 24 = .ok (.ishr, 1) := by decide +kernel
theorem dX4_bin_25 : decode cX4_bin 25 = .ok (.iadd, 1) := by decide +kernel
theorem dX4_bin_26 : decode cX4_bin 26 = .ok (.ireturn, 1) := by decide +kernel
theorem dX4_bin_27 : decode cX4_bin 27 = .ok (.aload_n 0, 1) := by decide +kernel
theorem dX4_bin_28 : decode cX4_bin 28 = .ok (.getfield 31, 3) := by decide +kernel
theorem dX4_bin_31 : decode cX4_bin 31 = .ok (.iconst 5, 1) := by decide +kernel
theorem dX4_bin_32 : decode cX4_bin 32 = .ok (.ishr, 1) := by decide +kernel
theorem dX4_bin_33 : decode cX4_bin 33 = .ok (.iload_n 1, 1) := by decide +kernel
theorem dX4_bin_34 : decode cX4_bin 34 = .ok (.iconst 5, 1) := by decide +kernel
theorem dX4_bin_35 : decode cX4_bin 35 = .ok (.ishr, 1) := by decide +kernel
theorem dX4_bin_36 : decode cX4_bin 36 = .ok (.if_icmp .ne 12, 3) := by decide +kernel
theorem dX4_bin_39 : decode cX4_bin 39 = .ok (.iconst 3, 1) := by decide +kernel
theorem dX4_bin_40 : decode cX4_bin 40 = .ok (.aload_n 0, 1) := by decide +kernel
theorem dX4_bin_41 : decode cX4_bin 41 = .ok (.getfield 31, 3) := by decide +kernel
theorem dX4_bin_44 : decode cX4_bin 44 = .ok (.iconst 5, 1) := by decide +kernel
theorem dX4_bin_45 : decode cX4_bin 45 = .ok (.ishr, 1) := by decide +kernel
theorem dX4_bin_46 : decode cX4_bin 46 = .ok (.iadd, 1) := by decide +kernel
theorem dX4_bin_47 : decode cX4_bin 47 = .ok (.ireturn, 1) := by decide +kernel
theorem dX4_bin_48 : decode cX4_bin 48 = .ok (.aload_n 0, 1) := by decide +kernel
theorem dX4_bin_49 : decode cX4_bin 49 = .ok (.getfield 31, 3) := by decide +kernel
theorem dX4_bin_52 : decode cX4_bin 52 = .ok (.bipush 7, 2) := by decide +kernel
theorem dX4_bin_54 : decode cX4_bin 54 = .ok (.ishr, 1) := by decide +kernel
theorem dX4_bin_55 : decode cX4_bin 55 = .ok (.iload_n 1, 1) := by decide +kernel
theorem dX4_bin_56 : decode cX4_bin 56 = .ok (.bipush 7, 2) := by decide +kernel
theorem dX4_bin_58 : decode cX4_bin 58 = .ok (.ishr, 1) := by decide +kernel
theorem dX4_bin_59 : decode cX4_bin 59 = .ok (.if_icmp .ne 13, 3) := by decide +kernel
theorem dX4_bin_62 : decode cX4_bin 62 = .ok (.iconst 1, 1) := by decide +kernel
theorem dX4_bin_63 : decode cX4_bin 63 = .ok (.aload_n 0, 1) := by decide +kernel
theorem dX4_bin_64 : decode cX4_bin 64 = .ok (.getfield 31, 3) := by decide +kernel
theorem dX4_bin_67 : decode cX4_bin 67 = .ok (.bipush 7, 2) := by decide +kernel
theorem dX4_bin_69 : decode cX4_bin 69 = .ok (.ishr, 1) := by decide +kernel
theorem dX4_bin_70 : decode cX4_bin 70 = .ok (.iadd, 1) := by decide +kernel
theorem dX4_bin_71 : decode cX4_bin 71 = .ok (.ireturn, 1) := by decide +kernel
theorem dX4_bin_72 : decode cX4_bin 72 = .ok (.iconst 0, 1) := by decide +kernel
theorem dX4_bin_73 : decode cX4_bin 73 = .ok (.ireturn, 1) := by decide +kernel
theorem dX4_trim_0 : decode cX4_trim 0 = .ok (.iconst 1, 1) := by decide +kernel
theorem dX4_trim_1 : decode cX4_trim 1 = .ok (.istore_n 2, 1) := by decide +kernel
theorem dX4_trim_2 : decode cX4_trim 2 = .ok (.iconst 0, 1) := by decide +kernel
theorem dX4_trim_3 : decode cX4_trim 3 = .ok (.istore_n 3, 1) := by decide +kernel
theorem dX4_trim_4 : decode cX4_trim 4 = .ok (.iload_n 2, 1) := by decide +kernel
theorem dX4_trim_5 : decode cX4_trim 5 = .ok (.ifCond .eq 37, 3) := by decide +kernel
theorem dX4_trim_8 : decode cX4_trim 8 = .ok (.iload_n 3, 1) := by decide +kernel
theorem dX4_trim_9 : decode cX4_trim 9 = .ok (.sipush 1000, 3) := by decide +kernel
theorem dX4_trim_12 : decode cX4_trim 12 = .ok (.if_icmp .ge 30, 3) := by decide +kernel
theorem dX4_trim_15 : decode cX4_trim 15 = .ok (.aload_n 0, 1) := by decide +kernel
theorem dX4_trim_16 : decode cX4_trim 16 = .ok (.aload_n 1, 1) := by decide +kernel
theorem dX4_trim_17 : decode cX4_trim 17 = .ok (.invokevirtual 59, 3) := by decide +kernel
theorem dX4_trim_20 : decode cX4_trim 20 = .ok (.ifCond .ne 10, 3) := by decide +kernel
theorem dX4_trim_23 : decode cX4_trim 23 = .ok (.aload_n 0, 1) := by decide +kernel
theorem dX4_trim_24 : decode cX4_trim 24 = .ok (.invokevirtual 63, 3) := by decide +kernel
theorem dX4_trim_27 : decode cX4_trim 27 = .ok (.ifCond .eq 7, 3) := by decide +kernel
theorem dX4_trim_30 : decode cX4_trim 30 = .ok (.iconst 1, 1) := by decide +kernel
theorem dX4_trim_31 : decode cX4_trim 31 = .ok (.goto 4, 3) := by decide +kernel
theorem dX4_trim_34 : decode cX4_trim 34 = .ok (.iconst 0, 1) := by decide +kernel
theorem dX4_trim_35 : decode cX4_trim 35 = .ok (.istore_n 2, 1) := by decide +kernel
theorem dX4_trim_36 : decode cX4_trim 36 = .ok (.iinc 3 1, 3) := by decide +kernel
theorem dX4_trim_39 : decode cX4_trim 39 = .ok (.goto (-35), 3) := by decide +kernel
theorem dX4_trim_42 : decode cX4_trim 42 = .ok (.return_, 1) := by decide +kernel
theorem dX4_trimEnd_0 : decode cX4_trimEnd 0 = .ok (.aload_n 0, 1) := by decide +kernel
theorem dX4_trimEnd_1 : decode cX4_trimEnd 1 = .ok (.invokevirtual 67, 3) := by decide +kernel
theorem dX4_trimEnd_4 : decode cX4_trimEnd 4 = .ok (.ifCond .eq 19, 3) := by decide +kernel
theorem dX4_trimEnd_7 : decode cX4_trimEnd 7 = .ok (.aload_n 0, 1) := by decide +kernel
theorem dX4_trimEnd_8 : decode cX4_trimEnd 8 = .ok (.getfield 31, 3) := by decide +kernel
theorem dX4_trimEnd_11 : decode cX4_trimEnd 11 = .ok (.iconst 1, 1) := by decide +kernel
theorem dX4_trimEnd_12 : decode cX4_trimEnd 12 = .ok (.if_icmp .ne 13, 3) := by decide +kernel
theorem dX4_trimEnd_15 : decode cX4_trimEnd 15 = .ok (.aload_n 0, 1) := by decide +kernel
theorem dX4_trimEnd_16 : decode cX4_trimEnd 16 = .ok (.invokevirtual 70, 3) := by decide +kernel
theorem dX4_trimEnd_19 : decode cX4_trimEnd 19 = .ok (.iconst 2, 1) := by decide +kernel
theorem dX4_trimEnd_20 : decode cX4_trimEnd 20 = .ok (.if_icmp .ge 5, 3) := by decide +kernel
theorem dX4_trimEnd_23 : decode cX4_trimEnd 23 = .ok (.iconst 0, 1) := by decide +kernel
theorem dX4_trimEnd_24 : decode cX4_trimEnd 24 = .ok (.ireturn, 1) := by decide +kernel
theorem dX4_trimEnd_25 : decode cX4_trimEnd 25 = .ok (.iconst 0, 1) := by decide +kernel
theorem dX4_trimEnd_26 : decode cX4_trimEnd 26 = .ok (.istore_n 2, 1) := by decide +kernel
theorem dX4_trimEnd_27 : decode cX4_trimEnd 27 = .ok (.iload_n 2, 1) := by decide +kernel
theorem dX4_trimEnd_28 : decode cX4_trimEnd 28 = .ok (.aload_n 0, 1) := by decide +kernel
theorem dX4_trimEnd_29 : decode cX4_trimEnd 29 = .ok (.getfield 38, 3) := by decide +kernel
theorem dX4_trimEnd_32 : decode cX4_trimEnd 32 = .ok (.if_icmp .ge 33, 3) := by decide +kernel
theorem dX4_trimEnd_35 : decode cX4_trimEnd 35 = .ok (.aload_n 0, 1) := by decide +kernel
theorem dX4_trimEnd_36 : decode cX4_trimEnd 36 = .ok (.getfield 9, 3) := by decide +kernel
theorem dX4_trimEnd_39 : decode cX4_trimEnd 39 = .ok (.iload_n 2, 1) := by decide +kernel
theorem dX4_trimEnd_40 : decode cX4_trimEnd 40 = .ok (.aload_n 0, 1) := by decide +kernel
theorem dX4_trimEnd_41 : decode cX4_trimEnd 41 = .ok (.getfield 9, 3) := by decide +kernel
theorem dX4_trimEnd_44 : decode cX4_trimEnd 44 = .ok (.iload_n 2, 1) := by decide +kernel
theorem dX4_trimEnd_45 : decode cX4_trimEnd 45 = .ok (.iaload, 1) := by decide +kernel
theorem dX4_trimEnd_46 : decode cX4_trimEnd 46 = .ok (.iconst 2, 1) := by decide +kernel
theorem dX4_trimEnd_47 : decode cX4_trimEnd 47 = .ok (.ishr, 1) := by decide +kernel
theorem dX4_trimEnd_48 : decode cX4_trimEnd 48 = .ok (.iastore, 1) := by decide +kernel
theorem dX4_trimEnd_49 : decode cX4_trimEnd 49 = .ok (.aload_n 0, 1) := by decide +kernel
theorem dX4_trimEnd_50 : decode cX4_trimEnd 50 = .ok (.getfield 15, 3) := by decide +kernel
theorem dX4_trimEnd_53 : decode cX4_trimEnd 53 = .ok (.iload_n 2, 1) := by decide +kernel
theorem dX4_trimEnd_54 : decode cX4_trimEnd 54 = .ok (.dup2, 1) := by decide +kernel
theorem dX4_trimEnd_55 : decode cX4_trimEnd 55 = .ok (.iaload, 1) := by decide +kernel
theorem dX4_trimEnd_56 : decode cX4_trimEnd 56 = .ok (.iconst 1, 1) := by decide +kernel
theorem dX4_trimEnd_57 : decode cX4_trimEnd 57 = .ok (.isub, 1) := by decide +kernel
theorem dX4_trimEnd_58 : decode cX4_trimEnd 58 = .ok (.iastore, 1) := by decide +kernel
theorem dX4_trimEnd_59 : decode cX4_trimEnd 59 = .ok (.iinc 2 1, 3) := by decide +kernel
theorem dX4_trimEnd_62 : decode cX4_trimEnd 62 = .ok (.goto (-35), 3) := by decide +kernel
theorem dX4_trimEnd_65 : decode cX4_trimEnd 65 = .ok (.aload_n 0, 1) := by decide +kernel
theorem dX4_trimEnd_66 : decode cX4_trimEnd 66 = .ok (.invokevirtual 70, 3) := by decide +kernel
theorem dX4_trimEnd_69 : decode cX4_trimEnd 69 = .ok (.ifCond .ne 26, 3) := by decide +kernel
theorem dX4_trimEnd_72 : decode cX4_trimEnd 72 = .ok (.aload_n 0, 1) := by decide +kernel
theorem dX4_trimEnd_73 : decode cX4_trimEnd 73 = .ok (.dup, 1) := by decide +kernel
theorem dX4_trimEnd_74 : decode cX4_trimEnd 74 = .ok (.getfield 31, 3) := by decide +kernel
theorem dX4_trimEnd_77 : decode cX4_trimEnd 77 = .ok (.iconst 1, 1) := by decide +kernel
theorem dX4_trimEnd_78 : decode cX4_trimEnd 78 = .ok (.isub, 1) := by decide +kernel
theorem dX4_trimEnd_79 : decode cX4_trimEnd 79 = .ok (.putfield 31, 3) := by decide +kernel
theorem dX4_trimEnd_82 : decode cX4_trimEnd 82 = .ok (.aload_n 0, 1) := by decide +kernel
theorem dX4_trimEnd_83 : decode cX4_trimEnd 83 = .ok (.aload_n 1, 1) := by decide +kernel
theorem dX4_trimEnd_84 : decode cX4_trimEnd 84 = .ok (.aload_n 0, 1) := by decide +kernel
theorem dX4_trimEnd_85 : decode cX4_trimEnd 85 = .ok (.getfield 31, 3) := by decide +kernel
theorem dX4_trimEnd_88 : decode cX4_trimEnd 88 = .ok (.iconst 1, 1) := by decide +kernel
theorem dX4_trimEnd_89 : decode cX4_trimEnd 89 = .ok (.invokevirtual 73, 3) := by decide +kernel
theorem dX4_trimEnd_92 : decode cX4_trimEnd 92 = .ok (.invokevirtual 78, 3) := by decide +kernel
theorem dX4_trimEnd_95 : decode cX4_trimEnd 95 = .ok (.iconst 1, 1) := by decide +kernel
theorem dX4_trimEnd_96 : decode cX4_trimEnd 96 = .ok (.ireturn, 1) := by decide +kernel
theorem dX4_trimFront_0 : decode cX4_trimFront 0 = .ok (.aload_n 0, 1) := by decide +kernel
theorem dX4_trimFront_1 : decode cX4_trimFront 1 = .ok (.invokevirtual 70, 3) := by decide +kernel
theorem dX4_trimFront_4 : decode cX4_trimFront 4 = .ok (.iconst 2, 1) := by decide +kernel
theorem dX4_trimFront_5 : decode cX4_trimFront 5 = .ok (.if_icmp .lt 10, 3) := by decide +kernel
theorem dX4_trimFront_8 : decode cX4_trimFront 8 = .ok (.aload_n 0, 1) := by decide +kernel
theorem dX4_trimFront_9 : decode cX4_trimFront 9 = .ok (.invokevirtual 81, 3) := by decide +kernel
theorem dX4_trimFront_12 : decode cX4_trimFront 12 = .ok (.ifCond .ne 5, 3) := by decide +kernel
theorem dX4_trimFront_15 : decode cX4_trimFront 15 = .ok (.iconst 0, 1) := by decide +kernel
theorem dX4_trimFront_16 : decode cX4_trimFront 16 = .ok (.ireturn, 1) := by decide +kernel
theorem dX4_trimFront_17 : decode cX4_trimFront 17 = .ok (.iconst 0, 1) := by decide +kernel
theorem dX4_trimFront_18 : decode cX4_trimFront 18 = .ok (.istore_n 1, 1) := by decide +kernel
theorem dX4_trimFront_19 : decode cX4_trimFront 19 = .ok (.iload_n 1, 1) := by decide +kernel
theorem dX4_trimFront_20 : decode cX4_trimFront 20 = .ok (.aload_n 0, 1) := by decide +kernel
theorem dX4_trimFront_21 : decode cX4_trimFront 21 = .ok (.getfield 38, 3) := by decide +kernel
theorem dX4_trimFront_24 : decode cX4_trimFront 24 = .ok (.if_icmp .ge 41, 3) := by decide +kernel
theorem dX4_trimFront_27 : decode cX4_trimFront 27 = .ok (.aload_n 0, 1) := by decide +kernel
theorem dX4_trimFront_28 : decode cX4_trimFront 28 = .ok (.getfield 15, 3) := by decide +kernel
theorem dX4_trimFront_31 : decode cX4_trimFront 31 = .ok (.iload_n 1, 1) := by decide +kernel
theorem dX4_trimFront_32 : decode cX4_trimFront 32 = .ok (.dup2, 1) := by decide +kernel
theorem dX4_trimFront_33 : decode cX4_trimFront 33 = .ok (.iaload, 1) := by decide +kernel
theorem dX4_trimFront_34 : decode cX4_trimFront 34 = .ok (.iconst 1, 1) := by decide +kernel
theorem dX4_trimFront_35 : decode cX4_trimFront 35 = .ok (.isub, 1) := by decide +kernel
theorem dX4_trimFront_36 : decode cX4_trimFront 36 = .ok (.iastore, 1) := by decide +kernel
theorem dX4_trimFront_37 : decode cX4_trimFront 37 = .ok (.aload_n 0, 1) := by decide +kernel
theorem dX4_trimFront_38 : decode cX4_trimFront 38 = .ok (.getfield 9, 3) := by decide +kernel
theorem dX4_trimFront_41 : decode cX4_trimFront 41 = .ok (.iload_n 1, 1) := by decide +kernel
theorem dX4_trimFront_42 : decode cX4_trimFront 42 = .ok (.aload_n 0, 1) := by decide +kernel
theorem dX4_trimFront_43 : decode cX4_trimFront 43 = .ok (.getfield 9, 3) := by decide +kernel
theorem dX4_trimFront_46 : decode cX4_trimFront 46 = .ok (.iload_n 1, 1) := by decide +kernel
theorem dX4_trimFront_47 : decode cX4_trimFront 47 = .ok (.iaload, 1) := by decide +kernel
theorem dX4_trimFront_48 : decode cX4_trimFront 48 = .ok (.aload_n 0, 1) := by decide +kernel
theorem dX4_trimFront_49 : decode cX4_trimFront 49 = .ok (.getfield 15, 3) := by decide +kernel
theorem dX4_trimFront_52 : decode cX4_trimFront 52 = .ok (.iload_n 1, 1) := by decide +kernel
theorem dX4_trimFront_53 : decode cX4_trimFront 53 = .ok (.iaload, 1) := by decide +kernel
theorem dX4_trimFront_54 : decode cX4_trimFront 54 = .ok (.invokestatic 84, 3) := by decide +kernel
theorem dX4_trimFront_57 : decode cX4_trimFront 57 = .ok (.iand, 1) := by decide +kernel
theorem dX4_trimFront_58 : decode cX4_trimFront 58 = .ok (.iastore, 1) := by decide +kernel
theorem dX4_trimFront_59 : decode cX4_trimFront 59 = .ok (.iinc 1 1, 3) := by decide +kernel
theorem dX4_trimFront_62 : decode cX4_trimFront 62 = .ok (.goto (-43), 3) := by decide +kernel
theorem dX4_trimFront_65 : decode cX4_trimFront 65 = .ok (.aload_n 0, 1) := by decide +kernel
theorem dX4_trimFront_66 : decode cX4_trimFront 66 = .ok (.dup, 1) := by decide +kernel
theorem dX4_trimFront_67 : decode cX4_trimFront 67 = .ok (.getfield 31, 3) := by decide +kernel
theorem dX4_trimFront_70 : decode cX4_trimFront 70 = .ok (.iconst 1, 1) := by decide +kernel
theorem dX4_trimFront_71 : decode cX4_trimFront 71 = .ok (.iadd, 1) := by decide +kernel
theorem dX4_trimFront_72 : decode cX4_trimFront 72 = .ok (.putfield 31, 3) := by decide +kernel
theorem dX4_trimFront_75 : decode cX4_trimFront 75 = .ok (.iconst 1, 1) := by decide +kernel
theorem dX4_trimFront_76 : decode cX4_trimFront 76 = .ok (.ireturn, 1) := by decide +kernel
theorem dX4_putInFront_0 : decode cX4_putInFront 0 = .ok (.iconst 0, 1) := by decide +kernel
theorem dX4_putInFront_1 : decode cX4_putInFront 1 = .ok (.istore_n 2, 1) := by decide +kernel
theorem dX4_putInFront_2 : decode cX4_putInFront 2 = .ok (.iload_n 2, 1) := by decide +kernel
theorem dX4_putInFront_3 : decode cX4_putInFront 3 = .ok (.aload_n 0, 1) := by decide +kernel
theorem dX4_putInFront_4 : decode cX4_putInFront 4 = .ok (.getfield 38, 3) := by decide +kernel
theorem dX4_putInFront_7 : decode cX4_putInFront 7 = .ok (.if_icmp .ge 42, 3) := by decide +kernel
theorem dX4_putInFront_10 : decode cX4_putInFront 10 = .ok (.aload_n 0, 1) := by decide +kernel
theorem dX4_putInFront_11 : decode cX4_putInFront 11 = .ok (.getfield 9, 3) := by decide +kernel
theorem dX4_putInFront_14 : decode cX4_putInFront 14 = .ok (.iload_n 2, 1) := by decide +kernel
theorem dX4_putInFront_15 : decode cX4_putInFront 15 = .ok (.aload_n 0, 1) := by decide +kernel
theorem dX4_putInFront_16 : decode cX4_putInFront 16 = .ok (.getfield 9, 3) := by decide +kernel
theorem dX4_putInFront_19 : decode cX4_putInFront 19 = .ok (.iload_n 2, 1) := by decide +kernel
theorem dX4_putInFront_20 : decode cX4_putInFront 20 = .ok (.iaload, 1) := by decide +kernel
theorem dX4_putInFront_21 : decode cX4_putInFront 21 = .ok (.iload_n 1, 1) := by decide +kernel
theorem dX4_putInFront_22 : decode cX4_putInFront 22 = .ok (.iconst 2, 1) := by decide +kernel
theorem dX4_putInFront_23 : decode cX4_putInFront 23 = .ok (.aload_n 0, 1) := by decide +kernel
theorem dX4_putInFront_24 : decode cX4_putInFront 24 = .ok (.getfield 15, 3) := by decide +kernel
theorem dX4_putInFront_27 : decode cX4_putInFront 27 = .ok (.iload_n 2, 1) := by decide +kernel
theorem dX4_putInFront_28 : decode cX4_putInFront 28 = .ok (.iaload, 1) := by decide +kernel
theorem dX4_putInFront_29 : decode cX4_putInFront 29 = .ok (.imul, 1) := by decide +kernel
theorem dX4_putInFront_30 : decode cX4_putInFront 30 = .ok (.ishl, 1) := by decide +kernel
theorem dX4_putInFront_31 : decode cX4_putInFront 31 = .ok (.ior, 1) := by decide +kernel
theorem dX4_putInFront_32 : decode cX4_putInFront 32 = .ok (.iastore, 1) := by decide +kernel
theorem dX4_putInFront_33 : decode cX4_putInFront 33 = .ok (.aload_n 0, 1) := by decide +kernel
theorem dX4_putInFront_34 : decode cX4_putInFront 34 = .ok (.getfield 15, 3) := by decide +kernel
theorem dX4_putInFront_37 : decode cX4_putInFront 37 = .ok (.iload_n 2, 1) := by decide +kernel
theorem dX4_putInFront_38 : decode cX4_putInFront 38 = .ok (.dup2, 1) := by decide +kernel
theorem dX4_putInFront_39 : decode cX4_putInFront 39 = .ok (.iaload, 1) := by decide +kernel
theorem dX4_putInFront_40 : decode cX4_putInFront 40 = .ok (.iconst 1, 1) := by decide +kernel
theorem dX4_putInFront_41 : decode cX4_putInFront 41 = .ok (.iadd, 1) := by decide +kernel
theorem dX4_putInFront_42 : decode cX4_putInFront 42 = .ok (.iastore, 1) := by decide +kernel
theorem dX4_putInFront_43 : decode cX4_putInFront 43 = .ok (.iinc 2 1, 3) := by decide +kernel
theorem dX4_putInFront_46 : decode cX4_putInFront 46 = .ok (.goto (-44), 3) := by decide +kernel
theorem dX4_putInFront_49 : decode cX4_putInFront 49 = .ok (.return_, 1) := by decide +kernel
theorem dX4_shortest_0 : decode cX4_shortest 0 = .ok (.aload_n 0, 1) := by decide +kernel
theorem dX4_shortest_1 : decode cX4_shortest 1 = .ok (.getfield 15, 3) := by decide +kernel
theorem dX4_shortest_4 : decode cX4_shortest 4 = .ok (.iconst 0, 1) := by decide +kernel
theorem dX4_shortest_5 : decode cX4_shortest 5 = .ok (.iaload, 1) := by decide +kernel
theorem dX4_shortest_6 : decode cX4_shortest 6 = .ok (.istore_n 1, 1) := by decide +kernel
theorem dX4_shortest_7 : decode cX4_shortest 7 = .ok (.iconst 1, 1) := by decide +kernel
theorem dX4_shortest_8 : decode cX4_shortest 8 = .ok (.istore_n 2, 1) := by decide +kernel
theorem dX4_shortest_9 : decode cX4_shortest 9 = .ok (.iload_n 2, 1) := by decide +kernel
theorem dX4_shortest_10 : decode cX4_shortest 10 = .ok (.aload_n 0, 1) := by decide +kernel
theorem dX4_shortest_11 : decode cX4_shortest 11 = .ok (.getfield 38, 3) := by decide +kernel
theorem dX4_shortest_14 : decode cX4_shortest 14 = .ok (.if_icmp .ge 20, 3) := by decide +kernel
theorem dX4_shortest_17 : decode cX4_shortest 17 = .ok (.iload_n 1, 1) := by decide +kernel
theorem dX4_shortest_18 : decode cX4_shortest 18 = .ok (.aload_n 0, 1) := by decide +kernel
theorem dX4_shortest_19 : decode cX4_shortest 19 = .ok (.getfield 15, 3) := by decide +kernel
theorem dX4_shortest_22 : decode cX4_shortest 22 = .ok (.iload_n 2, 1) := by decide +kernel
theorem dX4_shortest_23 : decode cX4_shortest 23 = .ok (.iaload, 1) := by decide +kernel
theorem dX4_shortest_24 : decode cX4_shortest 24 = .ok (.invokestatic 88, 3) := by decide +kernel
theorem dX4_shortest_27 : decode cX4_shortest 27 = .ok (.istore_n 1, 1) := by decide +kernel
theorem dX4_shortest_28 : decode cX4_shortest 28 = .ok (.iinc 2 1, 3) := by decide +kernel
theorem dX4_shortest_31 : decode cX4_shortest 31 = .ok (.goto (-22), 3) := by decide +kernel
theorem dX4_shortest_34 : decode cX4_shortest 34 = .ok (.iload_n 1, 1) := by decide +kernel
theorem dX4_shortest_35 : decode cX4_shortest 35 = .ok (.ireturn, 1) := by decide +kernel
theorem dX4_isLastBaseShared_0 : decode cX4_isLastBaseShared 0 = .ok (.iconst 1, 1) := by decide +kernel
theorem dX4_isLastBaseShared_1 : decode cX4_isLastBaseShared 1 = .ok (.istore_n 1, 1) := by decide +kernel
theorem dX4_isLastBaseShared_2 : decode cX4_isLastBaseShared 2 = .ok (.iload_n 1, 1) := by decide +kernel
theorem dX4_isLastBaseShared_3 : decode cX4_isLastBaseShared 3 = .ok (.aload_n 0, 1) := by decide +kernel
theorem dX4_isLastBaseShared_4 : decode cX4_isLastBaseShared 4 = .ok (.getfield 38, 3) := by decide +kernel
theorem dX4_isLastBaseShared_7 : decode cX4_isLastBaseShared 7 = .ok (.if_icmp .ge 30, 3) := by decide +kernel
theorem dX4_isLastBaseShared_10 : decode cX4_isLastBaseShared 10 = .ok (.aload_n 0, 1) := by decide +kernel
theorem dX4_isLastBaseShared_11 : decode cX4_isLastBaseShared 11 = .ok (.getfield 9, 3) := by decide +kernel
theorem dX4_isLastBaseShared_14 : decode cX4_isLastBaseShared 14 = .ok (.iload_n 1, 1) := by decide +kernel
theorem dX4_isLastBaseShared_15 : decode cX4_isLastBaseShared 15 = .ok (.iaload, 1) := by decide +kernel
theorem dX4_isLastBaseShared_16 : decode cX4_isLastBaseShared 16 = .ok (.iconst 3, 1) := by decide +kernel
theorem dX4_isLastBaseShared_17 : decode cX4_isLastBaseShared 17 = .ok (.iand, 1) := by decide +kernel
theorem dX4_isLastBaseShared_18 : decode cX4_isLastBaseShared 18 = .ok (.aload_n 0, 1) := by decide +kernel
theorem dX4_isLastBaseShared_19 : decode cX4_isLastBaseShared 19 = .ok (.getfield 9, 3) := by decide +kernel
theorem dX4_isLastBaseShared_22 : decode cX4_isLastBaseShared 22 = .ok (.iconst 0, 1) := by decide +kernel
theorem dX4_isLastBaseShared_23 : decode cX4_isLastBaseShared 23 = .ok (.iaload, 1) := by decide +kernel
theorem dX4_isLastBaseShared_24 : decode cX4_isLastBaseShared 24 = .ok (.iconst 3, 1) := by decide +kernel
theorem dX4_isLastBaseShared_25 : decode cX4_isLastBaseShared 25 = .ok (.iand, 1) := by decide +kernel
theorem dX4_isLastBaseShared_26 : decode cX4_isLastBaseShared 26 = .ok (.if_icmp .eq 5, 3) := by decide +kernel
theorem dX4_isLastBaseShared_29 : decode cX4_isLastBaseShared 29 = .ok (.iconst 0, 1) := by decide +kernel
theorem dX4_isLastBaseShared_30 : decode cX4_isLastBaseShared 30 = .ok (.ireturn, 1) := by decide +kernel
theorem dX4_isLastBaseShared_31 : decode cX4_isLastBaseShared 31 = .ok (.iinc 1 1, 3) := by decide +kernel
theorem dX4_isLastBaseShared_34 : decode cX4_isLastBaseShared 34 = .ok (.goto (-32), 3) := by decide +kernel
theorem dX4_isLastBaseShared_37 : decode cX4_isLastBaseShared 37 = .ok (.iconst 1, 1) := by decide +kernel
theorem dX4_isLastBaseShared_38 : decode cX4_isLastBaseShared 38 = .ok (.ireturn, 1) := by decide +kernel
theorem dX4_isFirstBaseShared_0 : decode cX4_isFirstBaseShared 0 = .ok (.aload_n 0, 1) := by decide +kernel
theorem dX4_isFirstBaseShared_1 : decode cX4_isFirstBaseShared 1 = .ok (.getfield 9, 3) := by decide +kernel
theorem dX4_isFirstBaseShared_4 : decode cX4_isFirstBaseShared 4 = .ok (.iconst 0, 1) := by decide +kernel
theorem dX4_isFirstBaseShared_5 : decode cX4_isFirstBaseShared 5 = .ok (.iaload, 1) := by decide +kernel
theorem dX4_isFirstBaseShared_6 : decode cX4_isFirstBaseShared 6 = .ok (.i2l, 1) := by decide +kernel
theorem dX4_isFirstBaseShared_7 : decode cX4_isFirstBaseShared 7 = .ok (.aload_n 0, 1) := by decide +kernel
theorem dX4_isFirstBaseShared_8 : decode cX4_isFirstBaseShared 8 = .ok (.getfield 15, 3) := by decide +kernel
theorem dX4_isFirstBaseShared_11 : decode cX4_isFirstBaseShared 11 = .ok (.iconst 0, 1) := by decide +kernel
theorem dX4_isFirstBaseShared_12 : decode cX4_isFirstBaseShared 12 = .ok (.iaload, 1) := by decide +kernel
theorem dX4_isFirstBaseShared_13 : decode cX4_isFirstBaseShared 13 = .ok (.iconst 0, 1) := by decide +kernel
theorem dX4_isFirstBaseShared_14 : decode cX4_isFirstBaseShared 14 = .ok (.invokestatic 93, 3) := by decide +kernel
theorem dX4_isFirstBaseShared_17 : decode cX4_isFirstBaseShared 17 = .ok (.istore_n 1, 1) := by decide +kernel
theorem dX4_isFirstBaseShared_18 : decode cX4_isFirstBaseShared 18 = .ok (.iconst 1, 1) := by decide +kernel
theorem dX4_isFirstBaseShared_19 : decode cX4_isFirstBaseShared 19 = .ok (.istore_n 2, 1) := by decide +kernel
theorem dX4_isFirstBaseShared_20 : decode cX4_isFirstBaseShared 20 = .ok (.iload_n 2, 1) := by decide +kernel
theorem dX4_isFirstBaseShared_21 : decode cX4_isFirstBaseShared 21 = .ok (.aload_n 0, 1) := by decide +kernel
theorem dX4_isFirstBaseShared_22 : decode cX4_isFirstBaseShared 22 = .ok (.getfield 38, 3) := by decide +kernel
theorem dX4_isFirstBaseShared_25 : decode cX4_isFirstBaseShared 25 = .ok (.if_icmp .ge 32, 3) := by decide +kernel
theorem dX4_isFirstBaseShared_28 : decode cX4_isFirstBaseShared 28 = .ok (.aload_n 0, 1) := by decide +kernel
theorem dX4_isFirstBaseShared_29 : decode cX4_isFirstBaseShared 29 = .ok (.getfield 9, 3) := by decide +kernel
theorem dX4_isFirstBaseShared_32 : decode cX4_isFirstBaseShared 32 = .ok (.iload_n 2, 1) := by decide +kernel
theorem dX4_isFirstBaseShared_33 : decode cX4_isFirstBaseShared 33 = .ok (.iaload, 1) := by decide +kernel
theorem dX4_isFirstBaseShared_34 : decode cX4_isFirstBaseShared 34 = .ok (.i2l, 1) := by decide +kernel
theorem dX4_isFirstBaseShared_35 : decode cX4_isFirstBaseShared 35 = .ok (.aload_n 0, 1) := by decide +kernel
theorem dX4_isFirstBaseShared_36 : decode cX4_isFirstBaseShared 36 = .ok (.getfield 15, 3) := by decide +kernel
theorem dX4_isFirstBaseShared_39 : decode cX4_isFirstBaseShared 39 = .ok (.iload_n 2, 1) := by decide +kernel
theorem dX4_isFirstBaseShared_40 : decode cX4_isFirstBaseShared 40 = .ok (.iaload, 1) := by decide +kernel
theorem dX4_isFirstBaseShared_41 : decode cX4_isFirstBaseShared 41 = .ok (.iconst 0, 1) := by decide +kernel
theorem dX4_isFirstBaseShared_42 : decode cX4_isFirstBaseShared 42 = .ok (.invokestatic 93, 3) := by decide +kernel
theorem dX4_isFirstBaseShared_45 : decode cX4_isFirstBaseShared 45 = .ok (.iload_n 1, 1) := by decide +kernel
theorem dX4_isFirstBaseShared_46 : decode cX4_isFirstBaseShared 46 = .ok (.if_icmp .eq 5, 3) := by decide +kernel
theorem dX4_isFirstBaseShared_49 : decode cX4_isFirstBaseShared 49 = .ok (.iconst 0, 1) := by decide +kernel
theorem dX4_isFirstBaseShared_50 : decode cX4_isFirstBaseShared 50 = .ok (.ireturn, 1) := by decide +kernel
theorem dX4_isFirstBaseShared_51 : decode cX4_isFirstBaseShared 51 = .ok (.iinc 2 1, 3) := by decide +kernel
theorem dX4_isFirstBaseShared_54 : decode cX4_isFirstBaseShared 54 = .ok (.goto (-34), 3) := by decide +kernel
theorem dX4_isFirstBaseShared_57 : decode cX4_isFirstBaseShared 57 = .ok (.iconst 1, 1) := by decide +kernel
theorem dX4_isFirstBaseShared_58 : decode cX4_isFirstBaseShared 58 = .ok (.ireturn, 1) := by decide +kernel
theorem dX4_becomePart_0 : decode cX4_becomePart 0 = .ok (.aload_n 0, 1) := by decide +kernel
theorem dX4_becomePart_1 : decode cX4_becomePart 1 = .ok (.invokevirtual 97, 3) := by decide +kernel
theorem dX4_becomePart_4 : decode cX4_becomePart 4 = .ok (.aload_n 0, 1) := by decide +kernel
theorem dX4_becomePart_5 : decode cX4_becomePart 5 = .ok (.aload_n 1, 1) := by decide +kernel
theorem dX4_becomePart_6 : decode cX4_becomePart 6 = .ok (.getfield 31, 3) := by decide +kernel
theorem dX4_becomePart_9 : decode cX4_becomePart 9 = .ok (.putfield 31, 3) := by decide +kernel
theorem dX4_becomePart_12 : decode cX4_becomePart 12 = .ok (.aload_n 0, 1) := by decide +kernel
theorem dX4_becomePart_13 : decode cX4_becomePart 13 = .ok (.aload_n 1, 1) := by decide +kernel
theorem dX4_becomePart_14 : decode cX4_becomePart 14 = .ok (.getfield 35, 3) := by decide +kernel
theorem dX4_becomePart_17 : decode cX4_becomePart 17 = .ok (.putfield 35, 3) := by decide +kernel
theorem dX4_becomePart_20 : decode cX4_becomePart 20 = .ok (.aload_n 0, 1) := by decide +kernel
theorem dX4_becomePart_21 : decode cX4_becomePart 21 = .ok (.aload_n 1, 1) := by decide +kernel
theorem dX4_becomePart_22 : decode cX4_becomePart 22 = .ok (.iconst 0, 1) := by decide +kernel
theorem dX4_becomePart_23 : decode cX4_becomePart 23 = .ok (.invokevirtual 100, 3) := by decide +kernel
theorem dX4_becomePart_26 : decode cX4_becomePart 26 = .ok (.aload_n 0, 1) := by decide +kernel
theorem dX4_becomePart_27 : decode cX4_becomePart 27 = .ok (.aload_n 1, 1) := by decide +kernel
theorem dX4_becomePart_28 : decode cX4_becomePart 28 = .ok (.iload_n 2, 1) := by decide +kernel
theorem dX4_becomePart_29 : decode cX4_becomePart 29 = .ok (.invokevirtual 100, 3) := by decide +kernel
theorem dX4_becomePart_32 : decode cX4_becomePart 32 = .ok (.iconst 0, 1) := by decide +kernel
theorem dX4_becomePart_33 : decode cX4_becomePart 33 = .ok (.istore_n 3, 1) := by decide +kernel
theorem dX4_becomePart_34 : decode cX4_becomePart 34 = .ok (.iload_n 3, 1) := by decide +kernel
theorem dX4_becomePart_35 : decode cX4_becomePart 35 = .ok (.iconst 4, 1) := by decide +kernel
theorem dX4_becomePart_36 : decode cX4_becomePart 36 = .ok (.if_icmp .ge 44, 3) := by decide +kernel
theorem dX4_becomePart_39 : decode cX4_becomePart 39 = .ok (.aload_n 1, 1) := by decide +kernel
theorem dX4_becomePart_40 : decode cX4_becomePart 40 = .ok (.getfield 21, 3) := by decide +kernel
theorem dX4_becomePart_43 : decode cX4_becomePart 43 = .ok (.iload_n 3, 1) := by decide +kernel
theorem dX4_becomePart_44 : decode cX4_becomePart 44 = .ok (.iaload, 1) := by decide +kernel
theorem dX4_becomePart_45 : decode cX4_becomePart 45 = .ok (.istore 4, 2) := by decide +kernel
theorem dX4_becomePart_47 : decode cX4_becomePart 47 = .ok (.aload_n 0, 1) := by decide +kernel
theorem dX4_becomePart_48 : decode cX4_becomePart 48 = .ok (.getfield 21, 3) := by decide +kernel
theorem dX4_becomePart_51 : decode cX4_becomePart 51 = .ok (.iload_n 3, 1) := by decide +kernel
theorem dX4_becomePart_52 : decode cX4_becomePart 52 = .ok (.iload 4, 2) := by decide +kernel
theorem dX4_becomePart_54 : decode cX4_becomePart 54 = .ok (.iconst (-1), 1) := by decide +kernel
theorem dX4_becomePart_55 : decode cX4_becomePart 55 = .ok (.if_icmp .ne 7, 3) := by decide +kernel
theorem dX4_becomePart_58 : decode cX4_becomePart 58 = .ok (.iconst (-1), 1) := by decide +kernel
theorem dX4_becomePart_59 : decode cX4_becomePart 59 = .ok (.goto 14, 3) := by decide +kernel
theorem dX4_becomePart_62 : decode cX4_becomePart 62 = .ok (.iload 4, 2) := by decide +kernel
theorem dX4_becomePart_64 : decode cX4_becomePart 64 = .ok (.iload_n 2, 1) := by decide +kernel
theorem dX4_becomePart_65 : decode cX4_becomePart 65 = .ok (.if_icmp .ne 7, 3) := by decide +kernel
theorem dX4_becomePart_68 : decode cX4_becomePart 68 = .ok (.iconst 1, 1) := by decide +kernel
theorem dX4_becomePart_69 : decode cX4_becomePart 69 = .ok (.goto 4, 3) := by decide +kernel
theorem dX4_becomePart_72 : decode cX4_becomePart 72 = .ok (.iconst 0, 1) := by decide +kernel
theorem dX4_becomePart_73 : decode cX4_becomePart 73 = .ok (.iastore, 1) := by decide +kernel
theorem dX4_becomePart_74 : decode cX4_becomePart 74 = .ok (.iinc 3 1, 3) := by decide +kernel
theorem dX4_becomePart_77 : decode cX4_becomePart 77 = .ok (.goto (-43), 3) := by decide +kernel
theorem dX4_becomePart_80 : decode cX4_becomePart 80 = .ok (.iconst 0, 1) := by decide +kernel
theorem dX4_becomePart_81 : decode cX4_becomePart 81 = .ok (.istore_n 3, 1) := by decide +kernel
theorem dX4_becomePart_82 : decode cX4_becomePart 82 = .ok (.iload_n 3, 1) := by decide +kernel
theorem dX4_becomePart_83 : decode cX4_becomePart 83 = .ok (.iconst 2, 1) := by decide +kernel
theorem dX4_becomePart_84 : decode cX4_becomePart 84 = .ok (.if_icmp .ge 85, 3) := by decide +kernel
theorem dX4_becomePart_87 : decode cX4_becomePart 87 = .ok (.aload_n 0, 1) := by decide +kernel
theorem dX4_becomePart_88 : decode cX4_becomePart 88 = .ok (.getfield 24, 3) := by decide +kernel
theorem dX4_becomePart_91 : decode cX4_becomePart 91 = .ok (.iload_n 3, 1) := by decide +kernel
theorem dX4_becomePart_92 : decode cX4_becomePart 92 = .ok (.aload_n 1, 1) := by decide +kernel
theorem dX4_becomePart_93 : decode cX4_becomePart 93 = .ok (.getfield 24, 3) := by decide +kernel
theorem dX4_becomePart_96 : decode cX4_becomePart 96 = .ok (.iload_n 3, 1) := by decide +kernel
theorem dX4_becomePart_97 : decode cX4_becomePart 97 = .ok (.baload, 1) := by decide +kernel
theorem dX4_becomePart_98 : decode cX4_becomePart 98 = .ok (.bastore, 1) := by decide +kernel
theorem dX4_becomePart_99 : decode cX4_becomePart 99 = .ok (.bipush 10, 2) := by decide +kernel
theorem dX4_becomePart_101 : decode cX4_becomePart 101 = .ok (.iload_n 3, 1) := by decide +kernel
theorem dX4_becomePart_102 : decode cX4_becomePart 102 = .ok (.imul, 1) := by decide +kernel
theorem dX4_becomePart_103 : decode cX4_becomePart 103 = .ok (.istore 4, 2) := by decide +kernel
theorem dX4_becomePart_105 : decode cX4_becomePart 105 = .ok (.aload_n 0, 1) := by decide +kernel
theorem dX4_becomePart_106 : decode cX4_becomePart 106 = .ok (.getfield 28, 3) := by decide +kernel
theorem dX4_becomePart_109 : decode cX4_becomePart 109 = .ok (.iload 4, 2) := by decide +kernel
theorem dX4_becomePart_111 : decode cX4_becomePart 111 = .ok (.aload_n 1, 1) := by decide +kernel
theorem dX4_becomePart_112 : decode cX4_becomePart 112 = .ok (.getfield 28, 3) := by decide +kernel
theorem dX4_becomePart_115 : decode cX4_becomePart 115 = .ok (.iload 4, 2) := by decide +kernel
theorem dX4_becomePart_117 : decode cX4_becomePart 117 = .ok (.iaload, 1) := by decide +kernel
theorem dX4_becomePart_118 : decode cX4_becomePart 118 = .ok (.iastore, 1) := by decide +kernel
theorem dX4_becomePart_119 : decode cX4_becomePart 119 = .ok (.aload_n 0, 1) := by decide +kernel
theorem dX4_becomePart_120 : decode cX4_becomePart 120 = .ok (.getfield 28, 3) := by decide +kernel
theorem dX4_becomePart_123 : decode cX4_becomePart 123 = .ok (.iload 4, 2) := by decide +kernel
theorem dX4_becomePart_125 : decode cX4_becomePart 125 = .ok (.iconst 1, 1) := by decide +kernel
theorem dX4_becomePart_126 : decode cX4_becomePart 126 = .ok (.iadd, 1) := by decide +kernel
theorem dX4_becomePart_127 : decode cX4_becomePart 127 = .ok (.aload_n 1, 1) := by decide +kernel
theorem dX4_becomePart_128 : decode cX4_becomePart 128 = .ok (.getfield 28, 3) := by decide +kernel
theorem dX4_becomePart_131 : decode cX4_becomePart 131 = .ok (.iload 4, 2) := by decide +kernel
theorem dX4_becomePart_133 : decode cX4_becomePart 133 = .ok (.iconst 0, 1) := by decide +kernel
theorem dX4_becomePart_134 : decode cX4_becomePart 134 = .ok (.iload_n 2, 1) := by decide +kernel
theorem dX4_becomePart_135 : decode cX4_becomePart 135 = .ok (.invokestatic 104, 3) := by decide +kernel
theorem dX4_becomePart_138 : decode cX4_becomePart 138 = .ok (.iadd, 1) := by decide +kernel
theorem dX4_becomePart_139 : decode cX4_becomePart 139 = .ok (.iaload, 1) := by decide +kernel
theorem dX4_becomePart_140 : decode cX4_becomePart 140 = .ok (.iastore, 1) := by decide +kernel
theorem dX4_becomePart_141 : decode cX4_becomePart 141 = .ok (.aload_n 0, 1) := by decide +kernel
theorem dX4_becomePart_142 : decode cX4_becomePart 142 = .ok (.getfield 28, 3) := by decide +kernel
theorem dX4_becomePart_145 : decode cX4_becomePart 145 = .ok (.iload 4, 2) := by decide +kernel
theorem dX4_becomePart_147 : decode cX4_becomePart 147 = .ok (.iconst 2, 1) := by decide +kernel
theorem dX4_becomePart_148 : decode cX4_becomePart 148 = .ok (.iadd, 1) := by decide +kernel
theorem dX4_becomePart_149 : decode cX4_becomePart 149 = .ok (.aload_n 1, 1) := by decide +kernel
theorem dX4_becomePart_150 : decode cX4_becomePart 150 = .ok (.getfield 28, 3) := by decide +kernel
theorem dX4_becomePart_153 : decode cX4_becomePart 153 = .ok (.iload 4, 2) := by decide +kernel
theorem dX4_becomePart_155 : decode cX4_becomePart 155 = .ok (.iload_n 2, 1) := by decide +kernel
theorem dX4_becomePart_156 : decode cX4_becomePart 156 = .ok (.iload_n 2, 1) := by decide +kernel
theorem dX4_becomePart_157 : decode cX4_becomePart 157 = .ok (.invokestatic 104, 3) := by decide +kernel
theorem dX4_becomePart_160 : decode cX4_becomePart 160 = .ok (.iadd, 1) := by decide +kernel
theorem dX4_becomePart_161 : decode cX4_becomePart 161 = .ok (.iaload, 1) := by decide +kernel
theorem dX4_becomePart_162 : decode cX4_becomePart 162 = .ok (.iastore, 1) := by decide +kernel
theorem dX4_becomePart_163 : decode cX4_becomePart 163 = .ok (.iinc 3 1, 3) := by decide +kernel
theorem dX4_becomePart_166 : decode cX4_becomePart 166 = .ok (.goto (-84), 3) := by decide +kernel
theorem dX4_becomePart_169 : decode cX4_becomePart 169 = .ok (.return_, 1) := by decide +kernel
theorem dX4_appendAlleleOf_0 : decode cX4_appendAlleleOf 0 = .ok (.aload_n 0, 1) := by decide +kernel
theorem dX4_appendAlleleOf_1 : decode cX4_appendAlleleOf 1 = .ok (.aload_n 1, 1) := by decide +kernel
theorem dX4_appendAlleleOf_2 : decode cX4_appendAlleleOf 2 = .ok (.getfield 9, 3) := by decide +kernel
theorem dX4_appendAlleleOf_5 : decode cX4_appendAlleleOf 5 = .ok (.iload_n 2, 1) := by decide +kernel
theorem dX4_appendAlleleOf_6 : decode cX4_appendAlleleOf 6 = .ok (.iaload, 1) := by decide +kernel
theorem dX4_appendAlleleOf_7 : decode cX4_appendAlleleOf 7 = .ok (.aload_n 1, 1) := by decide +kernel
theorem dX4_appendAlleleOf_8 : decode cX4_appendAlleleOf 8 = .ok (.getfield 15, 3) := by decide +kernel
theorem dX4_appendAlleleOf_11 : decode cX4_appendAlleleOf 11 = .ok (.iload_n 2, 1) := by decide +kernel
theorem dX4_appendAlleleOf_12 : decode cX4_appendAlleleOf 12 = .ok (.iaload, 1) := by decide +kernel
theorem dX4_appendAlleleOf_13 : decode cX4_appendAlleleOf 13 = .ok (.invokevirtual 107, 3) := by decide +kernel
theorem dX4_appendAlleleOf_16 : decode cX4_appendAlleleOf 16 = .ok (.aload_n 0, 1) := by decide +kernel
theorem dX4_appendAlleleOf_17 : decode cX4_appendAlleleOf 17 = .ok (.getfield 18, 3) := by decide +kernel
theorem dX4_appendAlleleOf_20 : decode cX4_appendAlleleOf 20 = .ok (.aload_n 0, 1) := by decide +kernel
theorem dX4_appendAlleleOf_21 : decode cX4_appendAlleleOf 21 = .ok (.getfield 38, 3) := by decide +kernel
theorem dX4_appendAlleleOf_24 : decode cX4_appendAlleleOf 24 = .ok (.iconst 1, 1) := by decide +kernel
theorem dX4_appendAlleleOf_25 : decode cX4_appendAlleleOf 25 = .ok (.isub, 1) := by decide +kernel
theorem dX4_appendAlleleOf_26 : decode cX4_appendAlleleOf 26 = .ok (.aload_n 1, 1) := by decide +kernel
theorem dX4_appendAlleleOf_27 : decode cX4_appendAlleleOf 27 = .ok (.getfield 18, 3) := by decide +kernel
theorem dX4_appendAlleleOf_30 : decode cX4_appendAlleleOf 30 = .ok (.iload_n 2, 1) := by decide +kernel
theorem dX4_appendAlleleOf_31 : decode cX4_appendAlleleOf 31 = .ok (.iaload, 1) := by decide +kernel
theorem dX4_appendAlleleOf_32 : decode cX4_appendAlleleOf 32 = .ok (.iastore, 1) := by decide +kernel
theorem dX4_appendAlleleOf_33 : decode cX4_appendAlleleOf 33 = .ok (.return_, 1) := by decide +kernel
theorem dX4_lengthenLike_0 : decode cX4_lengthenLike 0 = .ok (.aload_n 1, 1) := by decide +kernel
theorem dX4_lengthenLike_1 : decode cX4_lengthenLike 1 = .ok (.getfield 15, 3) := by decide +kernel
theorem dX4_lengthenLike_4 : decode cX4_lengthenLike 4 = .ok (.iconst 0, 1) := by decide +kernel
theorem dX4_lengthenLike_5 : decode cX4_lengthenLike 5 = .ok (.iaload, 1) := by decide +kernel
theorem dX4_lengthenLike_6 : decode cX4_lengthenLike 6 = .ok (.aload_n 0, 1) := by decide +kernel
theorem dX4_lengthenLike_7 : decode cX4_lengthenLike 7 = .ok (.getfield 15, 3) := by decide +kernel
theorem dX4_lengthenLike_10 : decode cX4_lengthenLike 10 = .ok (.iconst 0, 1) := by decide +kernel
theorem dX4_lengthenLike_11 : decode cX4_lengthenLike 11 = .ok (.iaload, 1) := by decide +kernel
theorem dX4_lengthenLike_12 : decode cX4_lengthenLike 12 = .ok (.isub, 1) := by decide +kernel
theorem dX4_lengthenLike_13 : decode cX4_lengthenLike 13 = .ok (.istore_n 2, 1) := by decide +kernel
theorem dX4_lengthenLike_14 : decode cX4_lengthenLike 14 = .ok (.iload_n 2, 1) := by decide +kernel
theorem dX4_lengthenLike_15 : decode cX4_lengthenLike 15 = .ok (.ifCond .gt 4, 3) := by decide +kernel
theorem dX4_lengthenLike_18 : decode cX4_lengthenLike 18 = .ok (.return_, 1) := by decide +kernel
theorem dX4_lengthenLike_19 : decode cX4_lengthenLike 19 = .ok (.aload_n 1, 1) := by decide +kernel
theorem dX4_lengthenLike_20 : decode cX4_lengthenLike 20 = .ok (.getfield 9, 3) := by decide +kernel
theorem dX4_lengthenLike_23 : decode cX4_lengthenLike 23 = .ok (.iconst 0, 1) := by decide +kernel
theorem dX4_lengthenLike_24 : decode cX4_lengthenLike 24 = .ok (.iaload, 1) := by decide +kernel
theorem dX4_lengthenLike_25 : decode cX4_lengthenLike 25 = .ok (.iload_n 2, 1) := by decide +kernel
theorem dX4_lengthenLike_26 : decode cX4_lengthenLike 26 = .ok (.invokestatic 84, 3) := by decide +kernel
theorem dX4_lengthenLike_29 : decode cX4_lengthenLike 29 = .ok (.iand, 1) := by decide +kernel
theorem dX4_lengthenLike_30 : decode cX4_lengthenLike 30 = .ok (.istore_n 3, 1) := by decide +kernel
theorem dX4_lengthenLike_31 : decode cX4_lengthenLike 31 = .ok (.iconst 0, 1) := by decide +kernel
theorem dX4_lengthenLike_32 : decode cX4_lengthenLike 32 = .ok (.istore 4, 2) := by decide +kernel
theorem dX4_lengthenLike_34 : decode cX4_lengthenLike 34 = .ok (.iload 4, 2) := by decide +kernel
theorem dX4_lengthenLike_36 : decode cX4_lengthenLike 36 = .ok (.aload_n 0, 1) := by decide +kernel
theorem dX4_lengthenLike_37 : decode cX4_lengthenLike 37 = .ok (.getfield 38, 3) := by decide +kernel
theorem dX4_lengthenLike_40 : decode cX4_lengthenLike 40 = .ok (.if_icmp .ge 40, 3) := by decide +kernel
theorem dX4_lengthenLike_43 : decode cX4_lengthenLike 43 = .ok (.aload_n 0, 1) := by decide +kernel
theorem dX4_lengthenLike_44 : decode cX4_lengthenLike 44 = .ok (.getfield 9, 3) := by decide +kernel
theorem dX4_lengthenLike_47 : decode cX4_lengthenLike 47 = .ok (.iload 4, 2) := by decide +kernel
theorem dX4_lengthenLike_49 : decode cX4_lengthenLike 49 = .ok (.aload_n 0, 1) := by decide +kernel
theorem dX4_lengthenLike_50 : decode cX4_lengthenLike 50 = .ok (.getfield 9, 3) := by decide +kernel
theorem dX4_lengthenLike_53 : decode cX4_lengthenLike 53 = .ok (.iload 4, 2) := by decide +kernel
theorem dX4_lengthenLike_55 : decode cX4_lengthenLike 55 = .ok (.iaload, 1) := by decide +kernel
theorem dX4_lengthenLike_56 : decode cX4_lengthenLike 56 = .ok (.iconst 2, 1) := by decide +kernel
theorem dX4_lengthenLike_57 : decode cX4_lengthenLike 57 = .ok (.iload_n 2, 1) := by decide +kernel
theorem dX4_lengthenLike_58 : decode cX4_lengthenLike 58 = .ok (.imul, 1) := by decide +kernel
theorem dX4_lengthenLike_59 : decode cX4_lengthenLike 59 = .ok (.ishl, 1) := by decide +kernel
theorem dX4_lengthenLike_60 : decode cX4_lengthenLike 60 = .ok (.iload_n 3, 1) := by decide +kernel
theorem dX4_lengthenLike_61 : decode cX4_lengthenLike 61 = .ok (.ior, 1) := by decide +kernel
theorem dX4_lengthenLike_62 : decode cX4_lengthenLike 62 = .ok (.iastore, 1) := by decide +kernel
theorem dX4_lengthenLike_63 : decode cX4_lengthenLike 63 = .ok (.aload_n 0, 1) := by decide +kernel
theorem dX4_lengthenLike_64 : decode cX4_lengthenLike 64 = .ok (.getfield 15, 3) := by decide +kernel
theorem dX4_lengthenLike_67 : decode cX4_lengthenLike 67 = .ok (.iload 4, 2) := by decide +kernel
theorem dX4_lengthenLike_69 : decode cX4_lengthenLike 69 = .ok (.dup2, 1) := by decide +kernel
theorem dX4_lengthenLike_70 : decode cX4_lengthenLike 70 = .ok (.iaload, 1) := by decide +kernel
theorem dX4_lengthenLike_71 : decode cX4_lengthenLike 71 = .ok (.iload_n 2, 1) := by decide +kernel
theorem dX4_lengthenLike_72 : decode cX4_lengthenLike 72 = .ok (.iadd, 1) := by decide +kernel
theorem dX4_lengthenLike_73 : decode cX4_lengthenLike 73 = .ok (.iastore, 1) := by decide +kernel
theorem dX4_lengthenLike_74 : decode cX4_lengthenLike 74 = .ok (.iinc 4 1, 3) := by decide +kernel
theorem dX4_lengthenLike_77 : decode cX4_lengthenLike 77 = .ok (.goto (-43), 3) := by decide +kernel
theorem dX4_lengthenLike_80 : decode cX4_lengthenLike 80 = .ok (.return_, 1) := by decide +kernel
theorem dX4_hasTooLongAllele_0 : decode cX4_hasTooLongAllele 0 = .ok (.iconst 0, 1) := by decide +kernel
theorem dX4_hasTooLongAllele_1 : decode cX4_hasTooLongAllele 1 = .ok (.istore_n 1, 1) := by decide +kernel
theorem dX4_hasTooLongAllele_2 : decode cX4_hasTooLongAllele 2 = .ok (.iload_n 1, 1) := by decide +kernel
theorem dX4_hasTooLongAllele_3 : decode cX4_hasTooLongAllele 3 = .ok (.aload_n 0, 1) := by decide +kernel
theorem dX4_hasTooLongAllele_4 : decode cX4_hasTooLongAllele 4 = .ok (.getfield 38, 3) := by decide +kernel
theorem dX4_hasTooLongAllele_7 : decode cX4_hasTooLongAllele 7 = .ok (.if_icmp .ge 22, 3) := by decide +kernel
theorem dX4_hasTooLongAllele_10 : decode cX4_hasTooLongAllele 10 = .ok (.aload_n 0, 1) := by decide +kernel
theorem dX4_hasTooLongAllele_11 : decode cX4_hasTooLongAllele 11 = .ok (.getfield 15, 3) := by decide +kernel
theorem dX4_hasTooLongAllele_14 : decode cX4_hasTooLongAllele 14 = .ok (.iload_n 1, 1) := by decide +kernel
theorem dX4_hasTooLongAllele_15 : decode cX4_hasTooLongAllele 15 = .ok (.iaload, 1) := by decide +kernel
theorem dX4_hasTooLongAllele_16 : decode cX4_hasTooLongAllele 16 = .ok (.bipush 8, 2) := by decide +kernel
theorem dX4_hasTooLongAllele_18 : decode cX4_hasTooLongAllele 18 = .ok (.if_icmp .le 5, 3) := by decide +kernel
theorem dX4_hasTooLongAllele_21 : decode cX4_hasTooLongAllele 21 = .ok (.iconst 1, 1) := by decide +kernel
theorem dX4_hasTooLongAllele_22 : decode cX4_hasTooLongAllele 22 = .ok (.ireturn, 1) := by decide +kernel
theorem dX4_hasTooLongAllele_23 : decode cX4_hasTooLongAllele 23 = .ok (.iinc 1 1, 3) := by decide +kernel
theorem dX4_hasTooLongAllele_26 : decode cX4_hasTooLongAllele 26 = .ok (.goto (-24), 3) := by decide +kernel
theorem dX4_hasTooLongAllele_29 : decode cX4_hasTooLongAllele 29 = .ok (.iconst 0, 1) := by decide +kernel
theorem dX4_hasTooLongAllele_30 : decode cX4_hasTooLongAllele 30 = .ok (.ireturn, 1) := by decide +kernel
end
section
theorem dX5_init_0 : decode cX5_init 0 = .ok (.aload_n 0, 1) := by decide +kernel
theorem dX5_init_1 : decode cX5_init 1 = .ok (.invokespecial 1, 3) := by decide +kernel
theorem dX5_init_4 : decode cX5_init 4 = .ok (.aload_n 0, 1) := by decide +kernel
theorem dX5_init_5 : decode cX5_init 5 = .ok (.new 7, 3) := by decide +kernel
theorem dX5_init_8 : decode cX5_init 8 = .ok (.dup, 1) := by decide +kernel
theorem dX5_init_9 : decode cX5_init 9 = .ok (.invokespecial 9, 3) := by decide +kernel
theorem dX5_init_12 : decode cX5_init 12 = .ok (.putfield 10, 3) := by decide +kernel
theorem dX5_init_15 : decode cX5_init 15 = .ok (.aload_n 0, 1) := by decide +kernel
theorem dX5_init_16 : decode cX5_init 16 = .ok (.new 16, 3) := by decide +kernel
theorem dX5_init_19 : decode cX5_init 19 = .ok (.dup, 1) := by decide +kernel
theorem dX5_init_20 : decode cX5_init 20 = .ok (.invokespecial 18, 3) := by decide +kernel
theorem dX5_init_23 : decode cX5_init 23 = .ok (.putfield 19, 3) := by decide +kernel
theorem dX5_init_26 : decode cX5_init 26 = .ok (.aload_n 0, 1) := by decide +kernel
theorem dX5_init_27 : decode cX5_init 27 = .ok (.new 23, 3) := by decide +kernel
theorem dX5_init_30 : decode cX5_init 30 = .ok (.dup, 1) := by decide +kernel
theorem dX5_init_31 : decode cX5_init 31 = .ok (.invokespecial 25, 3) := by decide +kernel
theorem dX5_init_34 : decode cX5_init 34 = .ok (.putfield 26, 3) := by decide +kernel
theorem dX5_init_37 : decode cX5_init 37 = .ok (.aload_n 0, 1) := by decide +kernel
theorem dX5_init_38 : decode cX5_init 38 = .ok (.iconst 0, 1) := by decide +kernel
theorem dX5_init_39 : decode cX5_init 39 = .ok (.putfield 30, 3) := by decide +kernel
theorem dX5_init_42 : decode cX5_init 42 = .ok (.aload_n 0, 1) := by decide +kernel
theorem dX5_init_43 : decode cX5_init 43 = .ok (.new 23, 3) := by decide +kernel
theorem dX5_init_46 : decode cX5_init 46 = .ok (.dup, 1) := by decide +kernel
theorem dX5_init_47 : decode cX5_init 47 = .ok (.invokespecial 25, 3) := by decide +kernel
theorem dX5_init_50 : decode cX5_init 50 = .ok (.putfield 34, 3) := by decide +kernel
theorem dX5_init_53 : decode cX5_init 53 = .ok (.aload_n 0, 1) := by decide +kernel
theorem dX5_init_54 : decode cX5_init 54 = .ok (.new 37, 3) := by decide +kernel
theorem dX5_init_57 : decode cX5_init 57 = .ok (.dup, 1) := by decide +kernel
theorem dX5_init_58 : decode cX5_init 58 = .ok (.invokespecial 39, 3) := by decide +kernel
theorem dX5_init_61 : decode cX5_init 61 = .ok (.putfield 40, 3) := by decide +kernel
theorem dX5_init_64 : decode cX5_init 64 = .ok (.aload_n 0, 1) := by decide +kernel
theorem dX5_init_65 : decode cX5_init 65 = .ok (.new 44, 3) := by decide +kernel
theorem dX5_init_68 : decode cX5_init 68 = .ok (.dup, 1) := by decide +kernel
theorem dX5_init_69 : decode cX5_init 69 = .ok (.invokespecial 46, 3) := by decide +kernel
theorem dX5_init_72 : decode cX5_init 72 = .ok (.putfield 47, 3) := by decide +kernel
theorem dX5_init_75 : decode cX5_init 75 = .ok (.aload_n 0, 1) := by decide +kernel
theorem dX5_init_76 : decode cX5_init 76 = .ok (.new 44, 3) := by decide +kernel
theorem dX5_init_79 : decode cX5_init 79 = .ok (.dup, 1) := by decide +kernel
theorem dX5_init_80 : decode cX5_init 80 = .ok (.invokespecial 46, 3) := by decide +kernel
theorem dX5_init_83 : decode cX5_init 83 = .ok (.putfield 51, 3) := by decide +kernel
theorem dX5_init_86 : decode cX5_init 86 = .ok (.return_, 1) := by decide +kernel
theorem dX5_reference_0 : decode cX5_reference 0 = .ok (.iload_n 3, 1) := by decide +kernel
theorem dX5_reference_1 : decode cX5_reference 1 = .ok (.iconst 1, 1) := by decide +kernel
theorem dX5_reference_2 : decode cX5_reference 2 = .ok (.if_icmp .lt 9, 3) := by decide +kernel
theorem dX5_reference_5 : decode cX5_reference 5 = .ok (.iload_n 3, 1) := by decide +kernel
theorem dX5_reference_6 : decode cX5_reference 6 = .ok (.bipush 16, 2) := by decide +kernel
theorem dX5_reference_8 : decode cX5_reference 8 = .ok (.if_icmp .le 13, 3) := by decide +kernel
theorem dX5_reference_11 : decode cX5_reference 11 = .ok (.new 54, 3) := by decide +kernel
theorem dX5_reference_14 : decode cX5_reference 14 = .ok (.dup, 1) := by decide +kernel
theorem dX5_reference_15 : decode cX5_reference 15 = .ok (.ldc 56, 2) := by decide +kernel
theorem dX5_reference_17 : decode cX5_reference 17 = .ok (.invokespecial 58, 3) := by decide +kernel
theorem dX5_reference_20 : decode cX5_reference 20 = .ok (.athrow, 1) := by decide +kernel
theorem dX5_reference_21 : decode cX5_reference 21 = .ok (.aload_n 0, 1) := by decide +kernel
theorem dX5_reference_22 : decode cX5_reference 22 = .ok (.getfield 30, 3) := by decide +kernel
theorem dX5_reference_25 : decode cX5_reference 25 = .ok (.ifCond .ne 13, 3) := by decide +kernel
theorem dX5_reference_28 : decode cX5_reference 28 = .ok (.aload_n 0, 1) := by decide +kernel
theorem dX5_reference_29 : decode cX5_reference 29 = .ok (.getfield 19, 3) := by decide +kernel
theorem dX5_reference_32 : decode cX5_reference 32 = .ok (.getfield 61, 3) := by decide +kernel
theorem dX5_reference_35 : decode cX5_reference 35 = .ok (.ifCond .le 13, 3) := by decide +kernel
theorem dX5_reference_38 : decode cX5_reference 38 = .ok (.new 65, 3) := by decide +kernel
theorem dX5_reference_41 : decode cX5_reference 41 = .ok (.dup, 1) := by decide +kernel
theorem dX5_reference_42 : decode cX5_reference 42 = .ok (.ldc 67, 2) := by decide +kernel
theorem dX5_reference_44 : decode cX5_reference 44 = .ok (.invokespecial 69, 3) := by decide +kernel
theorem dX5_reference_47 : decode cX5_reference 47 = .ok (.athrow, 1) := by decide +kernel
theorem dX5_reference_48 : decode cX5_reference 48 = .ok (.aload_n 0, 1) := by decide +kernel
theorem dX5_reference_49 : decode cX5_reference 49 = .ok (.getfield 10, 3) := by decide +kernel
theorem dX5_reference_52 : decode cX5_reference 52 = .ok (.getfield 70, 3) := by decide +kernel
theorem dX5_reference_55 : decode cX5_reference 55 = .ok (.iload_n 3, 1) := by decide +kernel
theorem dX5_reference_56 : decode cX5_reference 56 = .ok (.iadd, 1) := by decide +kernel
theorem dX5_reference_57 : decode cX5_reference 57 = .ok (.sipush 160, 3) := by decide +kernel
theorem dX5_reference_60 : decode cX5_reference 60 = .ok (.if_icmp .le 13, 3) := by decide +kernel
theorem dX5_reference_63 : decode cX5_reference 63 = .ok (.new 65, 3) := by decide +kernel
theorem dX5_reference_66 : decode cX5_reference 66 = .ok (.dup, 1) := by decide +kernel
theorem dX5_reference_67 : decode cX5_reference 67 = .ok (.ldc 73, 2) := by decide +kernel
theorem dX5_reference_69 : decode cX5_reference 69 = .ok (.invokespecial 69, 3) := by decide +kernel
theorem dX5_reference_72 : decode cX5_reference 72 = .ok (.athrow, 1) := by decide +kernel
theorem dX5_reference_73 : decode cX5_reference 73 = .ok (.aload_n 0, 1) := by decide +kernel
theorem dX5_reference_74 : decode cX5_reference 74 = .ok (.getfield 10, 3) := by decide +kernel
theorem dX5_reference_77 : decode cX5_reference 77 = .ok (.lload_n 1, 1) := by decide +kernel
theorem dX5_reference_78 : decode cX5_reference 78 = .ok (.iload_n 3, 1) := by decide +kernel
theorem dX5_reference_79 : decode cX5_reference 79 = .ok (.invokevirtual 75, 3) := by decide +kernel
theorem dX5_reference_82 : decode cX5_reference 82 = .ok (.aload_n 0, 1) := by decide +kernel
theorem dX5_reference_83 : decode cX5_reference 83 = .ok (.getfield 10, 3) := by decide +kernel
theorem dX5_reference_86 : decode cX5_reference 86 = .ok (.getfield 70, 3) := by decide +kernel
theorem dX5_reference_89 : decode cX5_reference 89 = .ok (.ireturn, 1) := by decide +kernel
theorem dX5_draft_0 : decode cX5_draft 0 = .ok (.iload_n 2, 1) := by decide +kernel
theorem dX5_draft_1 : decode cX5_draft 1 = .ok (.iconst 1, 1) := by decide +kernel
theorem dX5_draft_2 : decode cX5_draft 2 = .ok (.if_icmp .lt 9, 3) := by decide +kernel
theorem dX5_draft_5 : decode cX5_draft 5 = .ok (.iload_n 2, 1) := by decide +kernel
theorem dX5_draft_6 : decode cX5_draft 6 = .ok (.bipush 8, 2) := by decide +kernel
theorem dX5_draft_8 : decode cX5_draft 8 = .ok (.if_icmp .le 13, 3) := by decide +kernel
theorem dX5_draft_11 : decode cX5_draft 11 = .ok (.new 54, 3) := by decide +kernel
theorem dX5_draft_14 : decode cX5_draft 14 = .ok (.dup, 1) := by decide +kernel
theorem dX5_draft_15 : decode cX5_draft 15 = .ok (.ldc 79, 2) := by decide +kernel
theorem dX5_draft_17 : decode cX5_draft 17 = .ok (.invokespecial 58, 3) := by decide +kernel
theorem dX5_draft_20 : decode cX5_draft 20 = .ok (.athrow, 1) := by decide +kernel
theorem dX5_draft_21 : decode cX5_draft 21 = .ok (.aload_n 0, 1) := by decide +kernel
theorem dX5_draft_22 : decode cX5_draft 22 = .ok (.getfield 10, 3) := by decide +kernel
theorem dX5_draft_25 : decode cX5_draft 25 = .ok (.iload_n 1, 1) := by decide +kernel
theorem dX5_draft_26 : decode cX5_draft 26 = .ok (.iload_n 2, 1) := by decide +kernel
theorem dX5_draft_27 : decode cX5_draft 27 = .ok (.invokevirtual 81, 3) := by decide +kernel
theorem dX5_draft_30 : decode cX5_draft 30 = .ok (.ifCond .ne 13, 3) := by decide +kernel
theorem dX5_draft_33 : decode cX5_draft 33 = .ok (.new 54, 3) := by decide +kernel
theorem dX5_draft_36 : decode cX5_draft 36 = .ok (.dup, 1) := by decide +kernel
theorem dX5_draft_37 : decode cX5_draft 37 = .ok (.ldc 85, 2) := by decide +kernel
theorem dX5_draft_39 : decode cX5_draft 39 = .ok (.invokespecial 58, 3) := by decide +kernel
theorem dX5_draft_42 : decode cX5_draft 42 = .ok (.athrow, 1) := by decide +kernel
theorem dX5_draft_43 : decode cX5_draft 43 = .ok (.aload_n 0, 1) := by decide +kernel
theorem dX5_draft_44 : decode cX5_draft 44 = .ok (.getfield 26, 3) := by decide +kernel
theorem dX5_draft_47 : decode cX5_draft 47 = .ok (.invokevirtual 87, 3) := by decide +kernel
theorem dX5_draft_50 : decode cX5_draft 50 = .ok (.aload_n 0, 1) := by decide +kernel
theorem dX5_draft_51 : decode cX5_draft 51 = .ok (.getfield 26, 3) := by decide +kernel
theorem dX5_draft_54 : decode cX5_draft 54 = .ok (.iload_n 1, 1) := by decide +kernel
theorem dX5_draft_55 : decode cX5_draft 55 = .ok (.putfield 90, 3) := by decide +kernel
theorem dX5_draft_58 : decode cX5_draft 58 = .ok (.aload_n 0, 1) := by decide +kernel
theorem dX5_draft_59 : decode cX5_draft 59 = .ok (.getfield 26, 3) := by decide +kernel
theorem dX5_draft_62 : decode cX5_draft 62 = .ok (.aload_n 0, 1) := by decide +kernel
theorem dX5_draft_63 : decode cX5_draft 63 = .ok (.getfield 10, 3) := by decide +kernel
theorem dX5_draft_66 : decode cX5_draft 66 = .ok (.iload_n 1, 1) := by decide +kernel
theorem dX5_draft_67 : decode cX5_draft 67 = .ok (.iload_n 2, 1) := by decide +kernel
theorem dX5_draft_68 : decode cX5_draft 68 = .ok (.invokevirtual 93, 3) := by decide +kernel
theorem dX5_draft_71 : decode cX5_draft 71 = .ok (.iload_n 2, 1) := by decide +kernel
theorem dX5_draft_72 : decode cX5_draft 72 = .ok (.invokevirtual 97, 3) := by decide +kernel
theorem dX5_draft_75 : decode cX5_draft 75 = .ok (.aload_n 0, 1) := by decide +kernel
theorem dX5_draft_76 : decode cX5_draft 76 = .ok (.iconst 1, 1) := by decide +kernel
theorem dX5_draft_77 : decode cX5_draft 77 = .ok (.putfield 30, 3) := by decide +kernel
theorem dX5_draft_80 : decode cX5_draft 80 = .ok (.return_, 1) := by decide +kernel
theorem dX5_allele_0 : decode cX5_allele 0 = .ok (.iload_n 3, 1) := by decide +kernel
theorem dX5_allele_1 : decode cX5_allele 1 = .ok (.iconst 1, 1) := by decide +kernel
theorem dX5_allele_2 : decode cX5_allele 2 = .ok (.if_icmp .lt 9, 3) := by decide +kernel
theorem dX5_allele_5 : decode cX5_allele 5 = .ok (.iload_n 3, 1) := by decide +kernel
theorem dX5_allele_6 : decode cX5_allele 6 = .ok (.bipush 8, 2) := by decide +kernel
theorem dX5_allele_8 : decode cX5_allele 8 = .ok (.if_icmp .le 13, 3) := by decide +kernel
theorem dX5_allele_11 : decode cX5_allele 11 = .ok (.new 54, 3) := by decide +kernel
theorem dX5_allele_14 : decode cX5_allele 14 = .ok (.dup, 1) := by decide +kernel
theorem dX5_allele_15 : decode cX5_allele 15 = .ok (.ldc 101, 2) := by decide +kernel
theorem dX5_allele_17 : decode cX5_allele 17 = .ok (.invokespecial 58, 3) := by decide +kernel
theorem dX5_allele_20 : decode cX5_allele 20 = .ok (.athrow, 1) := by decide +kernel
theorem dX5_allele_21 : decode cX5_allele 21 = .ok (.aload_n 0, 1) := by decide +kernel
theorem dX5_allele_22 : decode cX5_allele 22 = .ok (.getfield 30, 3) := by decide +kernel
theorem dX5_allele_25 : decode cX5_allele 25 = .ok (.ifCond .ne 13, 3) := by decide +kernel
theorem dX5_allele_28 : decode cX5_allele 28 = .ok (.new 65, 3) := by decide +kernel
theorem dX5_allele_31 : decode cX5_allele 31 = .ok (.dup, 1) := by decide +kernel
theorem dX5_allele_32 : decode cX5_allele 32 = .ok (.ldc 103, 2) := by decide +kernel
theorem dX5_allele_34 : decode cX5_allele 34 = .ok (.invokespecial 69, 3) := by decide +kernel
theorem dX5_allele_37 : decode cX5_allele 37 = .ok (.athrow, 1) := by decide +kernel
theorem dX5_allele_38 : decode cX5_allele 38 = .ok (.aload_n 0, 1) := by decide +kernel
theorem dX5_allele_39 : decode cX5_allele 39 = .ok (.getfield 26, 3) := by decide +kernel
theorem dX5_allele_42 : decode cX5_allele 42 = .ok (.getfield 105, 3) := by decide +kernel
theorem dX5_allele_45 : decode cX5_allele 45 = .ok (.iconst 4, 1) := by decide +kernel
theorem dX5_allele_46 : decode cX5_allele 46 = .ok (.if_icmp .ne 13, 3) := by decide +kernel
theorem dX5_allele_49 : decode cX5_allele 49 = .ok (.new 65, 3) := by decide +kernel
theorem dX5_allele_52 : decode cX5_allele 52 = .ok (.dup, 1) := by decide +kernel
theorem dX5_allele_53 : decode cX5_allele 53 = .ok (.ldc 108, 2) := by decide +kernel
theorem dX5_allele_55 : decode cX5_allele 55 = .ok (.invokespecial 69, 3) := by decide +kernel
theorem dX5_allele_58 : decode cX5_allele 58 = .ok (.athrow, 1) := by decide +kernel
theorem dX5_allele_59 : decode cX5_allele 59 = .ok (.lload_n 1, 1) := by decide +kernel
theorem dX5_allele_60 : decode cX5_allele 60 = .ok (.iload_n 3, 1) := by decide +kernel
theorem dX5_allele_61 : decode cX5_allele 61 = .ok (.invokestatic 110, 3) := by decide +kernel
theorem dX5_allele_64 : decode cX5_allele 64 = .ok (.i2l, 1) := by decide +kernel
theorem dX5_allele_65 : decode cX5_allele 65 = .ok (.land, 1) := by decide +kernel
theorem dX5_allele_66 : decode cX5_allele 66 = .ok (.l2i, 1) := by decide +kernel
theorem dX5_allele_67 : decode cX5_allele 67 = .ok (.istore 4, 2) := by decide +kernel
theorem dX5_allele_69 : decode cX5_allele 69 = .ok (.aload_n 0, 1) := by decide +kernel
theorem dX5_allele_70 : decode cX5_allele 70 = .ok (.getfield 26, 3) := by decide +kernel
theorem dX5_allele_73 : decode cX5_allele 73 = .ok (.iload 4, 2) := by decide +kernel
theorem dX5_allele_75 : decode cX5_allele 75 = .ok (.iload_n 3, 1) := by decide +kernel
theorem dX5_allele_76 : decode cX5_allele 76 = .ok (.invokevirtual 114, 3) := by decide +kernel
theorem dX5_allele_79 : decode cX5_allele 79 = .ok (.ifCond .lt 13, 3) := by decide +kernel
theorem dX5_allele_82 : decode cX5_allele 82 = .ok (.new 65, 3) := by decide +kernel
theorem dX5_allele_85 : decode cX5_allele 85 = .ok (.dup, 1) := by decide +kernel
theorem dX5_allele_86 : decode cX5_allele 86 = .ok (.ldc 117, 2) := by decide +kernel
theorem dX5_allele_88 : decode cX5_allele 88 = .ok (.invokespecial 69, 3) := by decide +kernel
theorem dX5_allele_91 : decode cX5_allele 91 = .ok (.athrow, 1) := by decide +kernel
theorem dX5_allele_92 : decode cX5_allele 92 = .ok (.aload_n 0, 1) := by decide +kernel
theorem dX5_allele_93 : decode cX5_allele 93 = .ok (.getfield 26, 3) := by decide +kernel
theorem dX5_allele_96 : decode cX5_allele 96 = .ok (.iload 4, 2) := by decide +kernel
theorem dX5_allele_98 : decode cX5_allele 98 = .ok (.iload_n 3, 1) := by decide +kernel
theorem dX5_allele_99 : decode cX5_allele 99 = .ok (.invokevirtual 97, 3) := by decide +kernel
theorem dX5_allele_102 : decode cX5_allele 102 = .ok (.aload_n 0, 1) := by decide +kernel
theorem dX5_allele_103 : decode cX5_allele 103 = .ok (.getfield 26, 3) := by decide +kernel
theorem dX5_allele_106 : decode cX5_allele 106 = .ok (.getfield 105, 3) := by decide +kernel
theorem dX5_allele_109 : decode cX5_allele 109 = .ok (.iconst 1, 1) := by decide +kernel
theorem dX5_allele_110 : decode cX5_allele 110 = .ok (.isub, 1) := by decide +kernel
theorem dX5_allele_111 : decode cX5_allele 111 = .ok (.ireturn, 1) := by decide +kernel
theorem dX5_depth_0 : decode cX5_depth 0 = .ok (.aload_n 0, 1) := by decide +kernel
theorem dX5_depth_1 : decode cX5_depth 1 = .ok (.getfield 30, 3) := by decide +kernel
theorem dX5_depth_4 : decode cX5_depth 4 = .ok (.ifCond .eq 14, 3) := by decide +kernel
theorem dX5_depth_7 : decode cX5_depth 7 = .ok (.aload_n 0, 1) := by decide +kernel
theorem dX5_depth_8 : decode cX5_depth 8 = .ok (.getfield 26, 3) := by decide +kernel
theorem dX5_depth_11 : decode cX5_depth 11 = .ok (.iload_n 1, 1) := by decide +kernel
theorem dX5_depth_12 : decode cX5_depth 12 = .ok (.invokevirtual 119, 3) := by decide +kernel
theorem dX5_depth_15 : decode cX5_depth 15 = .ok (.ifCond .ne 13, 3) := by decide +kernel
theorem dX5_depth_18 : decode cX5_depth 18 = .ok (.new 54, 3) := by decide +kernel
theorem dX5_depth_21 : decode cX5_depth 21 = .ok (.dup, 1) := by decide +kernel
theorem dX5_depth_22 : decode cX5_depth 22 = .ok (.ldc 123, 2) := by decide +kernel
theorem dX5_depth_24 : decode cX5_depth 24 = .ok (.invokespecial 58, 3) := by decide +kernel
theorem dX5_depth_27 : decode cX5_depth 27 = .ok (.athrow, 1) := by decide +kernel
theorem dX5_depth_28 : decode cX5_depth 28 = .ok (.iload_n 2, 1) := by decide +kernel
theorem dX5_depth_29 : decode cX5_depth 29 = .ok (.sipush 9999, 3) := by decide +kernel
theorem dX5_depth_32 : decode cX5_depth 32 = .ok (.invokestatic 125, 3) := by decide +kernel
theorem dX5_depth_35 : decode cX5_depth 35 = .ok (.ifCond .eq 13, 3) := by decide +kernel
theorem dX5_depth_38 : decode cX5_depth 38 = .ok (.iload_n 3, 1) := by decide +kernel
theorem dX5_depth_39 : decode cX5_depth 39 = .ok (.sipush 8000, 3) := by decide +kernel
theorem dX5_depth_42 : decode cX5_depth 42 = .ok (.invokestatic 125, 3) := by decide +kernel
theorem dX5_depth_45 : decode cX5_depth 45 = .ok (.ifCond .ne 13, 3) := by decide +kernel
theorem dX5_depth_48 : decode cX5_depth 48 = .ok (.new 54, 3) := by decide +kernel
theorem dX5_depth_51 : decode cX5_depth 51 = .ok (.dup, 1) := by decide +kernel
theorem dX5_depth_52 : decode cX5_depth 52 = .ok (.ldc 128, 2) := by decide +kernel
theorem dX5_depth_54 : decode cX5_depth 54 = .ok (.invokespecial 58, 3) := by decide +kernel
theorem dX5_depth_57 : decode cX5_depth 57 = .ok (.athrow, 1) := by decide +kernel
theorem dX5_depth_58 : decode cX5_depth 58 = .ok (.aload_n 0, 1) := by decide +kernel
theorem dX5_depth_59 : decode cX5_depth 59 = .ok (.getfield 26, 3) := by decide +kernel
theorem dX5_depth_62 : decode cX5_depth 62 = .ok (.getfield 130, 3) := by decide +kernel
theorem dX5_depth_65 : decode cX5_depth 65 = .ok (.iload_n 1, 1) := by decide +kernel
theorem dX5_depth_66 : decode cX5_depth 66 = .ok (.iload_n 2, 1) := by decide +kernel
theorem dX5_depth_67 : decode cX5_depth 67 = .ok (.iastore, 1) := by decide +kernel
theorem dX5_depth_68 : decode cX5_depth 68 = .ok (.aload_n 0, 1) := by decide +kernel
theorem dX5_depth_69 : decode cX5_depth 69 = .ok (.getfield 26, 3) := by decide +kernel
theorem dX5_depth_72 : decode cX5_depth 72 = .ok (.iload_n 3, 1) := by decide +kernel
theorem dX5_depth_73 : decode cX5_depth 73 = .ok (.putfield 134, 3) := by decide +kernel
theorem dX5_depth_76 : decode cX5_depth 76 = .ok (.return_, 1) := by decide +kernel
theorem dX5_genotype_0 : decode cX5_genotype 0 = .ok (.aload_n 0, 1) := by decide +kernel
theorem dX5_genotype_1 : decode cX5_genotype 1 = .ok (.getfield 30, 3) := by decide +kernel
theorem dX5_genotype_4 : decode cX5_genotype 4 = .ok (.ifCond .eq 10, 3) := by decide +kernel
theorem dX5_genotype_7 : decode cX5_genotype 7 = .ok (.iload_n 1, 1) := by decide +kernel
theorem dX5_genotype_8 : decode cX5_genotype 8 = .ok (.invokestatic 137, 3) := by decide +kernel
theorem dX5_genotype_11 : decode cX5_genotype 11 = .ok (.ifCond .ne 13, 3) := by decide +kernel
theorem dX5_genotype_14 : decode cX5_genotype 14 = .ok (.new 54, 3) := by decide +kernel
theorem dX5_genotype_17 : decode cX5_genotype 17 = .ok (.dup, 1) := by decide +kernel
theorem dX5_genotype_18 : decode cX5_genotype 18 = .ok (.ldc 140, 2) := by decide +kernel
theorem dX5_genotype_20 : decode cX5_genotype 20 = .ok (.invokespecial 58, 3) := by decide +kernel
theorem dX5_genotype_23 : decode cX5_genotype 23 = .ok (.athrow, 1) := by decide +kernel
theorem dX5_genotype_24 : decode cX5_genotype 24 = .ok (.aload_n 0, 1) := by decide +kernel
theorem dX5_genotype_25 : decode cX5_genotype 25 = .ok (.getfield 26, 3) := by decide +kernel
theorem dX5_genotype_28 : decode cX5_genotype 28 = .ok (.iload_n 2, 1) := by decide +kernel
theorem dX5_genotype_29 : decode cX5_genotype 29 = .ok (.invokevirtual 142, 3) := by decide +kernel
theorem dX5_genotype_32 : decode cX5_genotype 32 = .ok (.ifCond .eq 14, 3) := by decide +kernel
theorem dX5_genotype_35 : decode cX5_genotype 35 = .ok (.aload_n 0, 1) := by decide +kernel
theorem dX5_genotype_36 : decode cX5_genotype 36 = .ok (.getfield 26, 3) := by decide +kernel
theorem dX5_genotype_39 : decode cX5_genotype 39 = .ok (.iload_n 3, 1) := by decide +kernel
theorem dX5_genotype_40 : decode cX5_genotype 40 = .ok (.invokevirtual 142, 3) := by decide +kernel
theorem dX5_genotype_43 : decode cX5_genotype 43 = .ok (.ifCond .ne 13, 3) := by decide +kernel
theorem dX5_genotype_46 : decode cX5_genotype 46 = .ok (.new 54, 3) := by decide +kernel
theorem dX5_genotype_49 : decode cX5_genotype 49 = .ok (.dup, 1) := by decide +kernel
theorem dX5_genotype_50 : decode cX5_genotype 50 = .ok (.ldc 145, 2) := by decide +kernel
theorem dX5_genotype_52 : decode cX5_genotype 52 = .ok (.invokespecial 58, 3) := by decide +kernel
theorem dX5_genotype_55 : decode cX5_genotype 55 = .ok (.athrow, 1) := by decide +kernel
theorem dX5_genotype_56 : decode cX5_genotype 56 = .ok (.aload_n 0, 1) := by decide +kernel
theorem dX5_genotype_57 : decode cX5_genotype 57 = .ok (.getfield 26, 3) := by decide +kernel
theorem dX5_genotype_60 : decode cX5_genotype 60 = .ok (.getfield 147, 3) := by decide +kernel
theorem dX5_genotype_63 : decode cX5_genotype 63 = .ok (.iconst 2, 1) := by decide +kernel
theorem dX5_genotype_64 : decode cX5_genotype 64 = .ok (.iload_n 1, 1) := by decide +kernel
theorem dX5_genotype_65 : decode cX5_genotype 65 = .ok (.imul, 1) := by decide +kernel
theorem dX5_genotype_66 : decode cX5_genotype 66 = .ok (.iload_n 2, 1) := by decide +kernel
theorem dX5_genotype_67 : decode cX5_genotype 67 = .ok (.iastore, 1) := by decide +kernel
theorem dX5_genotype_68 : decode cX5_genotype 68 = .ok (.aload_n 0, 1) := by decide +kernel
theorem dX5_genotype_69 : decode cX5_genotype 69 = .ok (.getfield 26, 3) := by decide +kernel
theorem dX5_genotype_72 : decode cX5_genotype 72 = .ok (.getfield 147, 3) := by decide +kernel
theorem dX5_genotype_75 : decode cX5_genotype 75 = .ok (.iconst 2, 1) := by decide +kernel
theorem dX5_genotype_76 : decode cX5_genotype 76 = .ok (.iload_n 1, 1) := by decide +kernel
theorem dX5_genotype_77 : decode cX5_genotype 77 = .ok (.imul, 1) := by decide +kernel
theorem dX5_genotype_78 : decode cX5_genotype 78 = .ok (.iconst 1, 1) := by decide +kernel
theorem dX5_genotype_79 : decode cX5_genotype 79 = .ok (.iadd, 1) := by decide +kernel
theorem dX5_genotype_80 : decode cX5_genotype 80 = .ok (.iload_n 3, 1) := by decide +kernel
theorem dX5_genotype_81 : decode cX5_genotype 81 = .ok (.iastore, 1) := by decide +kernel
theorem dX5_genotype_82 : decode cX5_genotype 82 = .ok (.aload_n 0, 1) := by decide +kernel
theorem dX5_genotype_83 : decode cX5_genotype 83 = .ok (.getfield 26, 3) := by decide +kernel
theorem dX5_genotype_86 : decode cX5_genotype 86 = .ok (.getfield 150, 3) := by decide +kernel
theorem dX5_genotype_89 : decode cX5_genotype 89 = .ok (.iload_n 1, 1) := by decide +kernel
theorem dX5_genotype_90 : decode cX5_genotype 90 = .ok (.iload 4, 2) := by decide +kernel
theorem dX5_genotype_92 : decode cX5_genotype 92 = .ok (.bastore, 1) := by decide +kernel
theorem dX5_genotype_93 : decode cX5_genotype 93 = .ok (.return_, 1) := by decide +kernel
theorem dX5_likelihood_0 : decode cX5_likelihood 0 = .ok (.aload_n 0, 1) := by decide +kernel
theorem dX5_likelihood_1 : decode cX5_likelihood 1 = .ok (.getfield 30, 3) := by decide +kernel
theorem dX5_likelihood_4 : decode cX5_likelihood 4 = .ok (.ifCond .eq 10, 3) := by decide +kernel
theorem dX5_likelihood_7 : decode cX5_likelihood 7 = .ok (.iload_n 1, 1) := by decide +kernel
theorem dX5_likelihood_8 : decode cX5_likelihood 8 = .ok (.invokestatic 137, 3) := by decide +kernel
theorem dX5_likelihood_11 : decode cX5_likelihood 11 = .ok (.ifCond .ne 13, 3) := by decide +kernel
theorem dX5_likelihood_14 : decode cX5_likelihood 14 = .ok (.new 54, 3) := by decide +kernel
theorem dX5_likelihood_17 : decode cX5_likelihood 17 = .ok (.dup, 1) := by decide +kernel
theorem dX5_likelihood_18 : decode cX5_likelihood 18 = .ok (.ldc 140, 2) := by decide +kernel
theorem dX5_likelihood_20 : decode cX5_likelihood 20 = .ok (.invokespecial 58, 3) := by decide +kernel
theorem dX5_likelihood_23 : decode cX5_likelihood 23 = .ok (.athrow, 1) := by decide +kernel
theorem dX5_likelihood_24 : decode cX5_likelihood 24 = .ok (.iload_n 2, 1) := by decide +kernel
theorem dX5_likelihood_25 : decode cX5_likelihood 25 = .ok (.ifCond .lt 14, 3) := by decide +kernel
theorem dX5_likelihood_28 : decode cX5_likelihood 28 = .ok (.iload_n 2, 1) := by decide +kernel
theorem dX5_likelihood_29 : decode cX5_likelihood 29 = .ok (.aload_n 0, 1) := by decide +kernel
theorem dX5_likelihood_30 : decode cX5_likelihood 30 = .ok (.getfield 26, 3) := by decide +kernel
theorem dX5_likelihood_33 : decode cX5_likelihood 33 = .ok (.invokevirtual 154, 3) := by decide +kernel
theorem dX5_likelihood_36 : decode cX5_likelihood 36 = .ok (.if_icmp .lt 13, 3) := by decide +kernel
theorem dX5_likelihood_39 : decode cX5_likelihood 39 = .ok (.new 54, 3) := by decide +kernel
theorem dX5_likelihood_42 : decode cX5_likelihood 42 = .ok (.dup, 1) := by decide +kernel
theorem dX5_likelihood_43 : decode cX5_likelihood 43 = .ok (.ldc 158, 2) := by decide +kernel
theorem dX5_likelihood_45 : decode cX5_likelihood 45 = .ok (.invokespecial 58, 3) := by decide +kernel
theorem dX5_likelihood_48 : decode cX5_likelihood 48 = .ok (.athrow, 1) := by decide +kernel
theorem dX5_likelihood_49 : decode cX5_likelihood 49 = .ok (.iload_n 3, 1) := by decide +kernel
theorem dX5_likelihood_50 : decode cX5_likelihood 50 = .ok (.sipush 999, 3) := by decide +kernel
theorem dX5_likelihood_53 : decode cX5_likelihood 53 = .ok (.invokestatic 125, 3) := by decide +kernel
theorem dX5_likelihood_56 : decode cX5_likelihood 56 = .ok (.ifCond .ne 13, 3) := by decide +kernel
theorem dX5_likelihood_59 : decode cX5_likelihood 59 = .ok (.new 54, 3) := by decide +kernel
theorem dX5_likelihood_62 : decode cX5_likelihood 62 = .ok (.dup, 1) := by decide +kernel
theorem dX5_likelihood_63 : decode cX5_likelihood 63 = .ok (.ldc 160, 2) := by decide +kernel
theorem dX5_likelihood_65 : decode cX5_likelihood 65 = .ok (.invokespecial 58, 3) := by decide +kernel
theorem dX5_likelihood_68 : decode cX5_likelihood 68 = .ok (.athrow, 1) := by decide +kernel
theorem dX5_likelihood_69 : decode cX5_likelihood 69 = .ok (.aload_n 0, 1) := by decide +kernel
theorem dX5_likelihood_70 : decode cX5_likelihood 70 = .ok (.getfield 26, 3) := by decide +kernel
theorem dX5_likelihood_73 : decode cX5_likelihood 73 = .ok (.getfield 162, 3) := by decide +kernel
theorem dX5_likelihood_76 : decode cX5_likelihood 76 = .ok (.bipush 10, 2) := by decide +kernel
theorem dX5_likelihood_78 : decode cX5_likelihood 78 = .ok (.iload_n 1, 1) := by decide +kernel
theorem dX5_likelihood_79 : decode cX5_likelihood 79 = .ok (.imul, 1) := by decide +kernel
theorem dX5_likelihood_80 : decode cX5_likelihood 80 = .ok (.iload_n 2, 1) := by decide +kernel
theorem dX5_likelihood_81 : decode cX5_likelihood 81 = .ok (.iadd, 1) := by decide +kernel
theorem dX5_likelihood_82 : decode cX5_likelihood 82 = .ok (.iload_n 3, 1) := by decide +kernel
theorem dX5_likelihood_83 : decode cX5_likelihood 83 = .ok (.iastore, 1) := by decide +kernel
theorem dX5_likelihood_84 : decode cX5_likelihood 84 = .ok (.return_, 1) := by decide +kernel
theorem dX5_add_0 : decode cX5_add 0 = .ok (.aload_n 0, 1) := by decide +kernel
theorem dX5_add_1 : decode cX5_add 1 = .ok (.getfield 30, 3) := by decide +kernel
theorem dX5_add_4 : decode cX5_add 4 = .ok (.ifCond .ne 13, 3) := by decide +kernel
theorem dX5_add_7 : decode cX5_add 7 = .ok (.new 65, 3) := by decide +kernel
theorem dX5_add_10 : decode cX5_add 10 = .ok (.dup, 1) := by decide +kernel
theorem dX5_add_11 : decode cX5_add 11 = .ok (.ldc 103, 2) := by decide +kernel
theorem dX5_add_13 : decode cX5_add 13 = .ok (.invokespecial 69, 3) := by decide +kernel
theorem dX5_add_16 : decode cX5_add 16 = .ok (.athrow, 1) := by decide +kernel
theorem dX5_add_17 : decode cX5_add 17 = .ok (.aload_n 0, 1) := by decide +kernel
theorem dX5_add_18 : decode cX5_add 18 = .ok (.getfield 26, 3) := by decide +kernel
theorem dX5_add_21 : decode cX5_add 21 = .ok (.getfield 105, 3) := by decide +kernel
theorem dX5_add_24 : decode cX5_add 24 = .ok (.iconst 2, 1) := by decide +kernel
theorem dX5_add_25 : decode cX5_add 25 = .ok (.if_icmp .ge 13, 3) := by decide +kernel
theorem dX5_add_28 : decode cX5_add 28 = .ok (.new 65, 3) := by decide +kernel
theorem dX5_add_31 : decode cX5_add 31 = .ok (.dup, 1) := by decide +kernel
theorem dX5_add_32 : decode cX5_add 32 = .ok (.ldc 165, 2) := by decide +kernel
theorem dX5_add_34 : decode cX5_add 34 = .ok (.invokespecial 69, 3) := by decide +kernel
theorem dX5_add_37 : decode cX5_add 37 = .ok (.athrow, 1) := by decide +kernel
theorem dX5_add_38 : decode cX5_add 38 = .ok (.aload_n 0, 1) := by decide +kernel
theorem dX5_add_39 : decode cX5_add 39 = .ok (.getfield 19, 3) := by decide +kernel
theorem dX5_add_42 : decode cX5_add 42 = .ok (.invokevirtual 167, 3) := by decide +kernel
theorem dX5_add_45 : decode cX5_add 45 = .ok (.ifCond .eq 13, 3) := by decide +kernel
theorem dX5_add_48 : decode cX5_add 48 = .ok (.new 65, 3) := by decide +kernel
theorem dX5_add_51 : decode cX5_add 51 = .ok (.dup, 1) := by decide +kernel
theorem dX5_add_52 : decode cX5_add 52 = .ok (.ldc 171, 2) := by decide +kernel
theorem dX5_add_54 : decode cX5_add 54 = .ok (.invokespecial 69, 3) := by decide +kernel
theorem dX5_add_57 : decode cX5_add 57 = .ok (.athrow, 1) := by decide +kernel
theorem dX5_add_58 : decode cX5_add 58 = .ok (.aload_n 0, 1) := by decide +kernel
theorem dX5_add_59 : decode cX5_add 59 = .ok (.iconst 0, 1) := by decide +kernel
theorem dX5_add_60 : decode cX5_add 60 = .ok (.putfield 30, 3) := by decide +kernel
theorem dX5_add_63 : decode cX5_add 63 = .ok (.aload_n 0, 1) := by decide +kernel
theorem dX5_add_64 : decode cX5_add 64 = .ok (.getfield 19, 3) := by decide +kernel
theorem dX5_add_67 : decode cX5_add 67 = .ok (.aload_n 0, 1) := by decide +kernel
theorem dX5_add_68 : decode cX5_add 68 = .ok (.getfield 26, 3) := by decide +kernel
theorem dX5_add_71 : decode cX5_add 71 = .ok (.invokevirtual 173, 3) := by decide +kernel
theorem dX5_add_74 : decode cX5_add 74 = .ok (.ireturn, 1) := by decide +kernel
theorem dX5_remove_0 : decode cX5_remove 0 = .ok (.aload_n 0, 1) := by decide +kernel
theorem dX5_remove_1 : decode cX5_remove 1 = .ok (.iload_n 1, 1) := by decide +kernel
theorem dX5_remove_2 : decode cX5_remove 2 = .ok (.invokevirtual 177, 3) := by decide +kernel
theorem dX5_remove_5 : decode cX5_remove 5 = .ok (.aload_n 0, 1) := by decide +kernel
theorem dX5_remove_6 : decode cX5_remove 6 = .ok (.getfield 19, 3) := by decide +kernel
theorem dX5_remove_9 : decode cX5_remove 9 = .ok (.iload_n 1, 1) := by decide +kernel
theorem dX5_remove_10 : decode cX5_remove 10 = .ok (.invokevirtual 181, 3) := by decide +kernel
theorem dX5_remove_13 : decode cX5_remove 13 = .ok (.return_, 1) := by decide +kernel
theorem dX5_normalise_0 : decode cX5_normalise 0 = .ok (.aload_n 0, 1) := by decide +kernel
theorem dX5_normalise_1 : decode cX5_normalise 1 = .ok (.iload_n 1, 1) := by decide +kernel
theorem dX5_normalise_2 : decode cX5_normalise 2 = .ok (.invokevirtual 177, 3) := by decide +kernel
theorem dX5_normalise_5 : decode cX5_normalise 5 = .ok (.aload_n 0, 1) := by decide +kernel
theorem dX5_normalise_6 : decode cX5_normalise 6 = .ok (.getfield 34, 3) := by decide +kernel
theorem dX5_normalise_9 : decode cX5_normalise 9 = .ok (.aload_n 0, 1) := by decide +kernel
theorem dX5_normalise_10 : decode cX5_normalise 10 = .ok (.getfield 19, 3) := by decide +kernel
theorem dX5_normalise_13 : decode cX5_normalise 13 = .ok (.getfield 184, 3) := by decide +kernel
theorem dX5_normalise_16 : decode cX5_normalise 16 = .ok (.iload_n 1, 1) := by decide +kernel
theorem dX5_normalise_17 : decode cX5_normalise 17 = .ok (.aaload, 1) := by decide +kernel
theorem dX5_normalise_18 : decode cX5_normalise 18 = .ok (.invokevirtual 188, 3) := by decide +kernel
theorem dX5_normalise_21 : decode cX5_normalise 21 = .ok (.aload_n 0, 1) := by decide +kernel
theorem dX5_normalise_22 : decode cX5_normalise 22 = .ok (.getfield 34, 3) := by decide +kernel
theorem dX5_normalise_25 : decode cX5_normalise 25 = .ok (.aload_n 0, 1) := by decide +kernel
theorem dX5_normalise_26 : decode cX5_normalise 26 = .ok (.getfield 10, 3) := by decide +kernel
theorem dX5_normalise_29 : decode cX5_normalise 29 = .ok (.invokevirtual 192, 3) := by decide +kernel
theorem dX5_normalise_32 : decode cX5_normalise 32 = .ok (.aload_n 0, 1) := by decide +kernel
theorem dX5_normalise_33 : decode cX5_normalise 33 = .ok (.getfield 19, 3) := by decide +kernel
theorem dX5_normalise_36 : decode cX5_normalise 36 = .ok (.iload_n 1, 1) := by decide +kernel
theorem dX5_normalise_37 : decode cX5_normalise 37 = .ok (.invokevirtual 181, 3) := by decide +kernel
theorem dX5_normalise_40 : decode cX5_normalise 40 = .ok (.aload_n 0, 1) := by decide +kernel
theorem dX5_normalise_41 : decode cX5_normalise 41 = .ok (.getfield 19, 3) := by decide +kernel
theorem dX5_normalise_44 : decode cX5_normalise 44 = .ok (.aload_n 0, 1) := by decide +kernel
theorem dX5_normalise_45 : decode cX5_normalise 45 = .ok (.getfield 34, 3) := by decide +kernel
theorem dX5_normalise_48 : decode cX5_normalise 48 = .ok (.invokevirtual 173, 3) := by decide +kernel
theorem dX5_normalise_51 : decode cX5_normalise 51 = .ok (.ireturn, 1) := by decide +kernel
theorem dX5_split_0 : decode cX5_split 0 = .ok (.aload_n 0, 1) := by decide +kernel
theorem dX5_split_1 : decode cX5_split 1 = .ok (.iload_n 1, 1) := by decide +kernel
theorem dX5_split_2 : decode cX5_split 2 = .ok (.invokevirtual 177, 3) := by decide +kernel
theorem dX5_split_5 : decode cX5_split 5 = .ok (.aload_n 0, 1) := by decide +kernel
theorem dX5_split_6 : decode cX5_split 6 = .ok (.getfield 19, 3) := by decide +kernel
theorem dX5_split_9 : decode cX5_split 9 = .ok (.getfield 184, 3) := by decide +kernel
theorem dX5_split_12 : decode cX5_split 12 = .ok (.iload_n 1, 1) := by decide +kernel
theorem dX5_split_13 : decode cX5_split 13 = .ok (.aaload, 1) := by decide +kernel
theorem dX5_split_14 : decode cX5_split 14 = .ok (.getfield 105, 3) := by decide +kernel
theorem dX5_split_17 : decode cX5_split 17 = .ok (.iconst 1, 1) := by decide +kernel
theorem dX5_split_18 : decode cX5_split 18 = .ok (.isub, 1) := by decide +kernel
theorem dX5_split_19 : decode cX5_split 19 = .ok (.istore_n 2, 1) := by decide +kernel
theorem dX5_split_20 : decode cX5_split 20 = .ok (.iload_n 2, 1) := by decide +kernel
theorem dX5_split_21 : decode cX5_split 21 = .ok (.iconst 2, 1) := by decide +kernel
theorem dX5_split_22 : decode cX5_split 22 = .ok (.if_icmp .ge 13, 3) := by decide +kernel
theorem dX5_split_25 : decode cX5_split 25 = .ok (.new 65, 3) := by decide +kernel
theorem dX5_split_28 : decode cX5_split 28 = .ok (.dup, 1) := by decide +kernel
theorem dX5_split_29 : decode cX5_split 29 = .ok (.ldc 196, 2) := by decide +kernel
theorem dX5_split_31 : decode cX5_split 31 = .ok (.invokespecial 69, 3) := by decide +kernel
theorem dX5_split_34 : decode cX5_split 34 = .ok (.athrow, 1) := by decide +kernel
theorem dX5_split_35 : decode cX5_split 35 = .ok (.aload_n 0, 1) := by decide +kernel
theorem dX5_split_36 : decode cX5_split 36 = .ok (.getfield 19, 3) := by decide +kernel
theorem dX5_split_39 : decode cX5_split 39 = .ok (.getfield 61, 3) := by decide +kernel
theorem dX5_split_42 : decode cX5_split 42 = .ok (.iconst 1, 1) := by decide +kernel
theorem dX5_split_43 : decode cX5_split 43 = .ok (.isub, 1) := by decide +kernel
theorem dX5_split_44 : decode cX5_split 44 = .ok (.iload_n 2, 1) := by decide +kernel
theorem dX5_split_45 : decode cX5_split 45 = .ok (.iadd, 1) := by decide +kernel
theorem dX5_split_46 : decode cX5_split 46 = .ok (.bipush 24, 2) := by decide +kernel
theorem dX5_split_48 : decode cX5_split 48 = .ok (.if_icmp .le 13, 3) := by decide +kernel
theorem dX5_split_51 : decode cX5_split 51 = .ok (.new 65, 3) := by decide +kernel
theorem dX5_split_54 : decode cX5_split 54 = .ok (.dup, 1) := by decide +kernel
theorem dX5_split_55 : decode cX5_split 55 = .ok (.ldc 198, 2) := by decide +kernel
theorem dX5_split_57 : decode cX5_split 57 = .ok (.invokespecial 69, 3) := by decide +kernel
theorem dX5_split_60 : decode cX5_split 60 = .ok (.athrow, 1) := by decide +kernel
theorem dX5_split_61 : decode cX5_split 61 = .ok (.aload_n 0, 1) := by decide +kernel
theorem dX5_split_62 : decode cX5_split 62 = .ok (.getfield 34, 3) := by decide +kernel
theorem dX5_split_65 : decode cX5_split 65 = .ok (.aload_n 0, 1) := by decide +kernel
theorem dX5_split_66 : decode cX5_split 66 = .ok (.getfield 19, 3) := by decide +kernel
theorem dX5_split_69 : decode cX5_split 69 = .ok (.getfield 184, 3) := by decide +kernel
theorem dX5_split_72 : decode cX5_split 72 = .ok (.iload_n 1, 1) := by decide +kernel
theorem dX5_split_73 : decode cX5_split 73 = .ok (.aaload, 1) := by decide +kernel
theorem dX5_split_74 : decode cX5_split 74 = .ok (.invokevirtual 188, 3) := by decide +kernel
theorem dX5_split_77 : decode cX5_split 77 = .ok (.aload_n 0, 1) := by decide +kernel
theorem dX5_split_78 : decode cX5_split 78 = .ok (.getfield 19, 3) := by decide +kernel
theorem dX5_split_81 : decode cX5_split 81 = .ok (.iload_n 1, 1) := by decide +kernel
theorem dX5_split_82 : decode cX5_split 82 = .ok (.invokevirtual 181, 3) := by decide +kernel
theorem dX5_split_85 : decode cX5_split 85 = .ok (.iconst 0, 1) := by decide +kernel
theorem dX5_split_86 : decode cX5_split 86 = .ok (.istore_n 3, 1) := by decide +kernel
theorem dX5_split_87 : decode cX5_split 87 = .ok (.iload_n 3, 1) := by decide +kernel
theorem dX5_split_88 : decode cX5_split 88 = .ok (.iload_n 2, 1) := by decide +kernel
theorem dX5_split_89 : decode cX5_split 89 = .ok (.if_icmp .ge 29, 3) := by decide +kernel
theorem dX5_split_92 : decode cX5_split 92 = .ok (.aload_n 0, 1) := by decide +kernel
theorem dX5_split_93 : decode cX5_split 93 = .ok (.getfield 19, 3) := by decide +kernel
theorem dX5_split_96 : decode cX5_split 96 = .ok (.iload_n 1, 1) := by decide +kernel
theorem dX5_split_97 : decode cX5_split 97 = .ok (.iload_n 3, 1) := by decide +kernel
theorem dX5_split_98 : decode cX5_split 98 = .ok (.iadd, 1) := by decide +kernel
theorem dX5_split_99 : decode cX5_split 99 = .ok (.invokevirtual 200, 3) := by decide +kernel
theorem dX5_split_102 : decode cX5_split 102 = .ok (.aload_n 0, 1) := by decide +kernel
theorem dX5_split_103 : decode cX5_split 103 = .ok (.getfield 34, 3) := by decide +kernel
theorem dX5_split_106 : decode cX5_split 106 = .ok (.iload_n 3, 1) := by decide +kernel
theorem dX5_split_107 : decode cX5_split 107 = .ok (.iconst 1, 1) := by decide +kernel
theorem dX5_split_108 : decode cX5_split 108 = .ok (.iadd, 1) := by decide +kernel
theorem dX5_split_109 : decode cX5_split 109 = .ok (.invokevirtual 204, 3) := by decide +kernel
theorem dX5_split_112 : decode cX5_split 112 = .ok (.iinc 3 1, 3) := by decide +kernel
theorem dX5_split_115 : decode cX5_split 115 = .ok (.goto (-28), 3) := by decide +kernel
theorem dX5_split_118 : decode cX5_split 118 = .ok (.iload_n 2, 1) := by decide +kernel
theorem dX5_split_119 : decode cX5_split 119 = .ok (.ireturn, 1) := by decide +kernel
theorem dX5_join_0 : decode cX5_join 0 = .ok (.aload_n 0, 1) := by decide +kernel
theorem dX5_join_1 : decode cX5_join 1 = .ok (.iload_n 1, 1) := by decide +kernel
theorem dX5_join_2 : decode cX5_join 2 = .ok (.invokevirtual 177, 3) := by decide +kernel
theorem dX5_join_5 : decode cX5_join 5 = .ok (.iload_n 1, 1) := by decide +kernel
theorem dX5_join_6 : decode cX5_join 6 = .ok (.iconst 1, 1) := by decide +kernel
theorem dX5_join_7 : decode cX5_join 7 = .ok (.iadd, 1) := by decide +kernel
theorem dX5_join_8 : decode cX5_join 8 = .ok (.aload_n 0, 1) := by decide +kernel
theorem dX5_join_9 : decode cX5_join 9 = .ok (.getfield 19, 3) := by decide +kernel
theorem dX5_join_12 : decode cX5_join 12 = .ok (.getfield 61, 3) := by decide +kernel
theorem dX5_join_15 : decode cX5_join 15 = .ok (.if_icmp .ge 32, 3) := by decide +kernel
theorem dX5_join_18 : decode cX5_join 18 = .ok (.aload_n 0, 1) := by decide +kernel
theorem dX5_join_19 : decode cX5_join 19 = .ok (.getfield 19, 3) := by decide +kernel
theorem dX5_join_22 : decode cX5_join 22 = .ok (.getfield 184, 3) := by decide +kernel
theorem dX5_join_25 : decode cX5_join 25 = .ok (.iload_n 1, 1) := by decide +kernel
theorem dX5_join_26 : decode cX5_join 26 = .ok (.iconst 1, 1) := by decide +kernel
theorem dX5_join_27 : decode cX5_join 27 = .ok (.iadd, 1) := by decide +kernel
theorem dX5_join_28 : decode cX5_join 28 = .ok (.aaload, 1) := by decide +kernel
theorem dX5_join_29 : decode cX5_join 29 = .ok (.getfield 90, 3) := by decide +kernel
theorem dX5_join_32 : decode cX5_join 32 = .ok (.aload_n 0, 1) := by decide +kernel
theorem dX5_join_33 : decode cX5_join 33 = .ok (.getfield 19, 3) := by decide +kernel
theorem dX5_join_36 : decode cX5_join 36 = .ok (.getfield 184, 3) := by decide +kernel
theorem dX5_join_39 : decode cX5_join 39 = .ok (.iload_n 1, 1) := by decide +kernel
theorem dX5_join_40 : decode cX5_join 40 = .ok (.aaload, 1) := by decide +kernel
theorem dX5_join_41 : decode cX5_join 41 = .ok (.getfield 90, 3) := by decide +kernel
theorem dX5_join_44 : decode cX5_join 44 = .ok (.if_icmp .eq 13, 3) := by decide +kernel
theorem dX5_join_47 : decode cX5_join 47 = .ok (.new 208, 3) := by decide +kernel
theorem dX5_join_50 : decode cX5_join 50 = .ok (.dup, 1) := by decide +kernel
theorem dX5_join_51 : decode cX5_join 51 = .ok (.ldc 210, 2) := by decide +kernel
theorem dX5_join_53 : decode cX5_join 53 = .ok (.invokespecial 212, 3) := by decide +kernel
theorem dX5_join_56 : decode cX5_join 56 = .ok (.athrow, 1) := by decide +kernel
theorem dX5_join_57 : decode cX5_join 57 = .ok (.aload_n 0, 1) := by decide +kernel
theorem dX5_join_58 : decode cX5_join 58 = .ok (.getfield 40, 3) := by decide +kernel
theorem dX5_join_61 : decode cX5_join 61 = .ok (.aload_n 0, 1) := by decide +kernel
theorem dX5_join_62 : decode cX5_join 62 = .ok (.getfield 19, 3) := by decide +kernel
theorem dX5_join_65 : decode cX5_join 65 = .ok (.getfield 184, 3) := by decide +kernel
theorem dX5_join_68 : decode cX5_join 68 = .ok (.iload_n 1, 1) := by decide +kernel
theorem dX5_join_69 : decode cX5_join 69 = .ok (.aaload, 1) := by decide +kernel
theorem dX5_join_70 : decode cX5_join 70 = .ok (.aload_n 0, 1) := by decide +kernel
theorem dX5_join_71 : decode cX5_join 71 = .ok (.getfield 19, 3) := by decide +kernel
theorem dX5_join_74 : decode cX5_join 74 = .ok (.getfield 184, 3) := by decide +kernel
theorem dX5_join_77 : decode cX5_join 77 = .ok (.iload_n 1, 1) := by decide +kernel
theorem dX5_join_78 : decode cX5_join 78 = .ok (.iconst 1, 1) := by decide +kernel
theorem dX5_join_79 : decode cX5_join 79 = .ok (.iadd, 1) := by decide +kernel
theorem dX5_join_80 : decode cX5_join 80 = .ok (.aaload, 1) := by decide +kernel
theorem dX5_join_81 : decode cX5_join 81 = .ok (.invokevirtual 213, 3) := by decide +kernel
theorem dX5_join_84 : decode cX5_join 84 = .ok (.ifCond .ne 13, 3) := by decide +kernel
theorem dX5_join_87 : decode cX5_join 87 = .ok (.new 65, 3) := by decide +kernel
theorem dX5_join_90 : decode cX5_join 90 = .ok (.dup, 1) := by decide +kernel
theorem dX5_join_91 : decode cX5_join 91 = .ok (.ldc 217, 2) := by decide +kernel
theorem dX5_join_93 : decode cX5_join 93 = .ok (.invokespecial 69, 3) := by decide +kernel
theorem dX5_join_96 : decode cX5_join 96 = .ok (.athrow, 1) := by decide +kernel
theorem dX5_join_97 : decode cX5_join 97 = .ok (.aload_n 0, 1) := by decide +kernel
theorem dX5_join_98 : decode cX5_join 98 = .ok (.getfield 19, 3) := by decide +kernel
theorem dX5_join_101 : decode cX5_join 101 = .ok (.iload_n 1, 1) := by decide +kernel
theorem dX5_join_102 : decode cX5_join 102 = .ok (.iconst 1, 1) := by decide +kernel
theorem dX5_join_103 : decode cX5_join 103 = .ok (.iadd, 1) := by decide +kernel
theorem dX5_join_104 : decode cX5_join 104 = .ok (.invokevirtual 181, 3) := by decide +kernel
theorem dX5_join_107 : decode cX5_join 107 = .ok (.aload_n 0, 1) := by decide +kernel
theorem dX5_join_108 : decode cX5_join 108 = .ok (.getfield 19, 3) := by decide +kernel
theorem dX5_join_111 : decode cX5_join 111 = .ok (.getfield 184, 3) := by decide +kernel
theorem dX5_join_114 : decode cX5_join 114 = .ok (.iload_n 1, 1) := by decide +kernel
theorem dX5_join_115 : decode cX5_join 115 = .ok (.aaload, 1) := by decide +kernel
theorem dX5_join_116 : decode cX5_join 116 = .ok (.aload_n 0, 1) := by decide +kernel
theorem dX5_join_117 : decode cX5_join 117 = .ok (.getfield 40, 3) := by decide +kernel
theorem dX5_join_120 : decode cX5_join 120 = .ok (.getfield 219, 3) := by decide +kernel
theorem dX5_join_123 : decode cX5_join 123 = .ok (.invokevirtual 188, 3) := by decide +kernel
theorem dX5_join_126 : decode cX5_join 126 = .ok (.return_, 1) := by decide +kernel
theorem dX5_written_0 : decode cX5_written 0 = .ok (.aload_n 0, 1) := by decide +kernel
theorem dX5_written_1 : decode cX5_written 1 = .ok (.iload_n 1, 1) := by decide +kernel
theorem dX5_written_2 : decode cX5_written 2 = .ok (.invokevirtual 177, 3) := by decide +kernel
theorem dX5_written_5 : decode cX5_written 5 = .ok (.aload_n 0, 1) := by decide +kernel
theorem dX5_written_6 : decode cX5_written 6 = .ok (.getfield 51, 3) := by decide +kernel
theorem dX5_written_9 : decode cX5_written 9 = .ok (.aload_n 0, 1) := by decide +kernel
theorem dX5_written_10 : decode cX5_written 10 = .ok (.getfield 19, 3) := by decide +kernel
theorem dX5_written_13 : decode cX5_written 13 = .ok (.getfield 184, 3) := by decide +kernel
theorem dX5_written_16 : decode cX5_written 16 = .ok (.iload_n 1, 1) := by decide +kernel
theorem dX5_written_17 : decode cX5_written 17 = .ok (.aaload, 1) := by decide +kernel
theorem dX5_written_18 : decode cX5_written 18 = .ok (.invokevirtual 222, 3) := by decide +kernel
theorem dX5_written_21 : decode cX5_written 21 = .ok (.iload_n 2, 1) := by decide +kernel
theorem dX5_written_22 : decode cX5_written 22 = .ok (.iconst (-1), 1) := by decide +kernel
theorem dX5_written_23 : decode cX5_written 23 = .ok (.if_icmp .lt 14, 3) := by decide +kernel
theorem dX5_written_26 : decode cX5_written 26 = .ok (.iload_n 2, 1) := by decide +kernel
theorem dX5_written_27 : decode cX5_written 27 = .ok (.aload_n 0, 1) := by decide +kernel
theorem dX5_written_28 : decode cX5_written 28 = .ok (.getfield 51, 3) := by decide +kernel
theorem dX5_written_31 : decode cX5_written 31 = .ok (.getfield 225, 3) := by decide +kernel
theorem dX5_written_34 : decode cX5_written 34 = .ok (.if_icmp .lt 13, 3) := by decide +kernel
theorem dX5_written_37 : decode cX5_written 37 = .ok (.new 228, 3) := by decide +kernel
theorem dX5_written_40 : decode cX5_written 40 = .ok (.dup, 1) := by decide +kernel
theorem dX5_written_41 : decode cX5_written 41 = .ok (.ldc 230, 2) := by decide +kernel
theorem dX5_written_43 : decode cX5_written 43 = .ok (.invokespecial 232, 3) := by decide +kernel
theorem dX5_written_46 : decode cX5_written 46 = .ok (.athrow, 1) := by decide +kernel
theorem dX5_written_47 : decode cX5_written 47 = .ok (.iload_n 2, 1) := by decide +kernel
theorem dX5_written_48 : decode cX5_written 48 = .ok (.iconst (-1), 1) := by decide +kernel
theorem dX5_written_49 : decode cX5_written 49 = .ok (.if_icmp .ne 13, 3) := by decide +kernel
theorem dX5_written_52 : decode cX5_written 52 = .ok (.aload_n 0, 1) := by decide +kernel
theorem dX5_written_53 : decode cX5_written 53 = .ok (.getfield 51, 3) := by decide +kernel
theorem dX5_written_56 : decode cX5_written 56 = .ok (.getfield 225, 3) := by decide +kernel
theorem dX5_written_59 : decode cX5_written 59 = .ok (.goto 12, 3) := by decide +kernel
theorem dX5_written_62 : decode cX5_written 62 = .ok (.aload_n 0, 1) := by decide +kernel
theorem dX5_written_63 : decode cX5_written 63 = .ok (.getfield 51, 3) := by decide +kernel
theorem dX5_written_66 : decode cX5_written 66 = .ok (.getfield 233, 3) := by decide +kernel
theorem dX5_written_69 : decode cX5_written 69 = .ok (.iload_n 2, 1) := by decide +kernel
theorem dX5_written_70 : decode cX5_written 70 = .ok (.iaload, 1) := by decide +kernel
theorem dX5_written_71 : decode cX5_written 71 = .ok (.ireturn, 1) := by decide +kernel
theorem dX5_type_0 : decode cX5_type 0 = .ok (.iload_n 3, 1) := by decide +kernel
theorem dX5_type_1 : decode cX5_type 1 = .ok (.iconst 1, 1) := by decide +kernel
theorem dX5_type_2 : decode cX5_type 2 = .ok (.if_icmp .lt 9, 3) := by decide +kernel
theorem dX5_type_5 : decode cX5_type 5 = .ok (.iload_n 3, 1) := by decide +kernel
theorem dX5_type_6 : decode cX5_type 6 = .ok (.bipush 8, 2) := by decide +kernel
theorem dX5_type_8 : decode cX5_type 8 = .ok (.if_icmp .le 13, 3) := by decide +kernel
theorem dX5_type_11 : decode cX5_type 11 = .ok (.new 54, 3) := by decide +kernel
theorem dX5_type_14 : decode cX5_type 14 = .ok (.dup, 1) := by decide +kernel
theorem dX5_type_15 : decode cX5_type 15 = .ok (.ldc 101, 2) := by decide +kernel
theorem dX5_type_17 : decode cX5_type 17 = .ok (.invokespecial 58, 3) := by decide +kernel
theorem dX5_type_20 : decode cX5_type 20 = .ok (.athrow, 1) := by decide +kernel
theorem dX5_type_21 : decode cX5_type 21 = .ok (.aload_n 0, 1) := by decide +kernel
theorem dX5_type_22 : decode cX5_type 22 = .ok (.getfield 47, 3) := by decide +kernel
theorem dX5_type_25 : decode cX5_type 25 = .ok (.getfield 225, 3) := by decide +kernel
theorem dX5_type_28 : decode cX5_type 28 = .ok (.iload_n 3, 1) := by decide +kernel
theorem dX5_type_29 : decode cX5_type 29 = .ok (.iadd, 1) := by decide +kernel
theorem dX5_type_30 : decode cX5_type 30 = .ok (.bipush 120, 2) := by decide +kernel
theorem dX5_type_32 : decode cX5_type 32 = .ok (.if_icmp .le 13, 3) := by decide +kernel
theorem dX5_type_35 : decode cX5_type 35 = .ok (.new 65, 3) := by decide +kernel
theorem dX5_type_38 : decode cX5_type 38 = .ok (.dup, 1) := by decide +kernel
theorem dX5_type_39 : decode cX5_type 39 = .ok (.ldc 236, 2) := by decide +kernel
theorem dX5_type_41 : decode cX5_type 41 = .ok (.invokespecial 69, 3) := by decide +kernel
theorem dX5_type_44 : decode cX5_type 44 = .ok (.athrow, 1) := by decide +kernel
theorem dX5_type_45 : decode cX5_type 45 = .ok (.iload_n 3, 1) := by decide +kernel
theorem dX5_type_46 : decode cX5_type 46 = .ok (.iconst 1, 1) := by decide +kernel
theorem dX5_type_47 : decode cX5_type 47 = .ok (.isub, 1) := by decide +kernel
theorem dX5_type_48 : decode cX5_type 48 = .ok (.istore 4, 2) := by decide +kernel
theorem dX5_type_50 : decode cX5_type 50 = .ok (.iload 4, 2) := by decide +kernel
theorem dX5_type_52 : decode cX5_type 52 = .ok (.ifCond .lt 28, 3) := by decide +kernel
theorem dX5_type_55 : decode cX5_type 55 = .ok (.aload_n 0, 1) := by decide +kernel
theorem dX5_type_56 : decode cX5_type 56 = .ok (.getfield 47, 3) := by decide +kernel
theorem dX5_type_59 : decode cX5_type 59 = .ok (.lload_n 1, 1) := by decide +kernel
theorem dX5_type_60 : decode cX5_type 60 = .ok (.bipush 8, 2) := by decide +kernel
theorem dX5_type_62 : decode cX5_type 62 = .ok (.iload 4, 2) := by decide +kernel
theorem dX5_type_64 : decode cX5_type 64 = .ok (.imul, 1) := by decide +kernel
theorem dX5_type_65 : decode cX5_type 65 = .ok (.lushr, 1) := by decide +kernel
theorem dX5_type_66 : decode cX5_type 66 = .ok (.l2i, 1) := by decide +kernel
theorem dX5_type_67 : decode cX5_type 67 = .ok (.sipush 255, 3) := by decide +kernel
theorem dX5_type_70 : decode cX5_type 70 = .ok (.iand, 1) := by decide +kernel
theorem dX5_type_71 : decode cX5_type 71 = .ok (.invokevirtual 238, 3) := by decide +kernel
theorem dX5_type_74 : decode cX5_type 74 = .ok (.iinc 4 (-1), 3) := by decide +kernel
theorem dX5_type_77 : decode cX5_type 77 = .ok (.goto (-27), 3) := by decide +kernel
theorem dX5_type_80 : decode cX5_type 80 = .ok (.return_, 1) := by decide +kernel
theorem dX5_read_0 : decode cX5_read 0 = .ok (.aload_n 0, 1) := by decide +kernel
theorem dX5_read_1 : decode cX5_read 1 = .ok (.getfield 19, 3) := by decide +kernel
theorem dX5_read_4 : decode cX5_read 4 = .ok (.invokevirtual 167, 3) := by decide +kernel
theorem dX5_read_7 : decode cX5_read 7 = .ok (.istore_n 1, 1) := by decide +kernel
theorem dX5_read_8 : decode cX5_read 8 = .ok (.iload_n 1, 1) := by decide +kernel
theorem dX5_read_9 : decode cX5_read 9 = .ok (.ifCond .ne 14, 3) := by decide +kernel
theorem dX5_read_12 : decode cX5_read 12 = .ok (.aload_n 0, 1) := by decide +kernel
theorem dX5_read_13 : decode cX5_read 13 = .ok (.invokevirtual 241, 3) := by decide +kernel
theorem dX5_read_16 : decode cX5_read 16 = .ok (.ifCond .eq 7, 3) := by decide +kernel
theorem dX5_read_19 : decode cX5_read 19 = .ok (.iconst 1, 1) := by decide +kernel
theorem dX5_read_20 : decode cX5_read 20 = .ok (.goto 4, 3) := by decide +kernel
theorem dX5_read_23 : decode cX5_read 23 = .ok (.iconst 0, 1) := by decide +kernel
theorem dX5_read_24 : decode cX5_read 24 = .ok (.istore_n 2, 1) := by decide +kernel
theorem dX5_read_25 : decode cX5_read 25 = .ok (.aload_n 0, 1) := by decide +kernel
theorem dX5_read_26 : decode cX5_read 26 = .ok (.getfield 47, 3) := by decide +kernel
theorem dX5_read_29 : decode cX5_read 29 = .ok (.iconst 0, 1) := by decide +kernel
theorem dX5_read_30 : decode cX5_read 30 = .ok (.putfield 225, 3) := by decide +kernel
theorem dX5_read_33 : decode cX5_read 33 = .ok (.iload_n 1, 1) := by decide +kernel
theorem dX5_read_34 : decode cX5_read 34 = .ok (.ifCond .eq 13, 3) := by decide +kernel
theorem dX5_read_37 : decode cX5_read 37 = .ok (.new 65, 3) := by decide +kernel
theorem dX5_read_40 : decode cX5_read 40 = .ok (.dup, 1) := by decide +kernel
theorem dX5_read_41 : decode cX5_read 41 = .ok (.ldc 171, 2) := by decide +kernel
theorem dX5_read_43 : decode cX5_read 43 = .ok (.invokespecial 69, 3) := by decide +kernel
theorem dX5_read_46 : decode cX5_read 46 = .ok (.athrow, 1) := by decide +kernel
theorem dX5_read_47 : decode cX5_read 47 = .ok (.iload_n 2, 1) := by decide +kernel
theorem dX5_read_48 : decode cX5_read 48 = .ok (.ifCond .ne 13, 3) := by decide +kernel
theorem dX5_read_51 : decode cX5_read 51 = .ok (.new 54, 3) := by decide +kernel
theorem dX5_read_54 : decode cX5_read 54 = .ok (.dup, 1) := by decide +kernel
theorem dX5_read_55 : decode cX5_read 55 = .ok (.ldc 244, 2) := by decide +kernel
theorem dX5_read_57 : decode cX5_read 57 = .ok (.invokespecial 58, 3) := by decide +kernel
theorem dX5_read_60 : decode cX5_read 60 = .ok (.athrow, 1) := by decide +kernel
theorem dX5_read_61 : decode cX5_read 61 = .ok (.aload_n 0, 1) := by decide +kernel
theorem dX5_read_62 : decode cX5_read 62 = .ok (.getfield 19, 3) := by decide +kernel
theorem dX5_read_65 : decode cX5_read 65 = .ok (.aload_n 0, 1) := by decide +kernel
theorem dX5_read_66 : decode cX5_read 66 = .ok (.getfield 34, 3) := by decide +kernel
theorem dX5_read_69 : decode cX5_read 69 = .ok (.invokevirtual 173, 3) := by decide +kernel
theorem dX5_read_72 : decode cX5_read 72 = .ok (.ireturn, 1) := by decide +kernel
theorem dX5_records_0 : decode cX5_records 0 = .ok (.aload_n 0, 1) := by decide +kernel
theorem dX5_records_1 : decode cX5_records 1 = .ok (.getfield 19, 3) := by decide +kernel
theorem dX5_records_4 : decode cX5_records 4 = .ok (.getfield 61, 3) := by decide +kernel
theorem dX5_records_7 : decode cX5_records 7 = .ok (.ireturn, 1) := by decide +kernel
theorem dX5_about_0 : decode cX5_about 0 = .ok (.aload_n 0, 1) := by decide +kernel
theorem dX5_about_1 : decode cX5_about 1 = .ok (.iload_n 1, 1) := by decide +kernel
theorem dX5_about_2 : decode cX5_about 2 = .ok (.invokevirtual 177, 3) := by decide +kernel
theorem dX5_about_5 : decode cX5_about 5 = .ok (.aload_n 0, 1) := by decide +kernel
theorem dX5_about_6 : decode cX5_about 6 = .ok (.getfield 19, 3) := by decide +kernel
theorem dX5_about_9 : decode cX5_about 9 = .ok (.getfield 184, 3) := by decide +kernel
theorem dX5_about_12 : decode cX5_about 12 = .ok (.iload_n 1, 1) := by decide +kernel
theorem dX5_about_13 : decode cX5_about 13 = .ok (.aaload, 1) := by decide +kernel
theorem dX5_about_14 : decode cX5_about 14 = .ok (.astore_n 3, 1) := by decide +kernel
theorem dX5_about_15 : decode cX5_about 15 = .ok (.iload_n 2, 1) := by decide +kernel
theorem dX5_about_16 : decode cX5_about 16 = .ok (.tableswitch 63 0 4 #[36, 41, 46, 53, 58], 36) := by decide +kernel
theorem dX5_about_52 : decode cX5_about 52 = .ok (.aload_n 3, 1) := by decide +kernel
theorem dX5_about_53 : decode cX5_about 53 = .ok (.getfield 90, 3) := by decide +kernel
theorem dX5_about_56 : decode cX5_about 56 = .ok (.ireturn, 1) := by decide +kernel
theorem dX5_about_57 : decode cX5_about 57 = .ok (.aload_n 3, 1) := by decide +kernel
theorem dX5_about_58 : decode cX5_about 58 = .ok (.getfield 105, 3) := by decide +kernel
theorem dX5_about_61 : decode cX5_about 61 = .ok (.ireturn, 1) := by decide +kernel
theorem dX5_about_62 : decode cX5_about 62 = .ok (.aload_n 3, 1) := by decide +kernel
theorem dX5_about_63 : decode cX5_about 63 = .ok (.getfield 246, 3) := by decide +kernel
theorem dX5_about_66 : decode cX5_about 66 = .ok (.iconst 0, 1) := by decide +kernel
theorem dX5_about_67 : decode cX5_about 67 = .ok (.iaload, 1) := by decide +kernel
theorem dX5_about_68 : decode cX5_about 68 = .ok (.ireturn, 1) := by decide +kernel
theorem dX5_about_69 : decode cX5_about 69 = .ok (.aload_n 3, 1) := by decide +kernel
theorem dX5_about_70 : decode cX5_about 70 = .ok (.getfield 134, 3) := by decide +kernel
theorem dX5_about_73 : decode cX5_about 73 = .ok (.ireturn, 1) := by decide +kernel
theorem dX5_about_74 : decode cX5_about 74 = .ok (.aload_n 3, 1) := by decide +kernel
theorem dX5_about_75 : decode cX5_about 75 = .ok (.invokevirtual 249, 3) := by decide +kernel
theorem dX5_about_78 : decode cX5_about 78 = .ok (.ireturn, 1) := by decide +kernel
theorem dX5_about_79 : decode cX5_about 79 = .ok (.new 54, 3) := by decide +kernel
theorem dX5_about_82 : decode cX5_about 82 = .ok (.dup, 1) := by decide +kernel
theorem dX5_about_83 : decode cX5_about 83 = .ok (.ldc 252, 2) := by decide +kernel
theorem dX5_about_85 : decode cX5_about 85 = .ok (.invokespecial 58, 3) := by decide +kernel
theorem dX5_about_88 : decode cX5_about 88 = .ok (.athrow, 1) := by decide +kernel
theorem dX5_base_0 : decode cX5_base 0 = .ok (.aload_n 0, 1) := by decide +kernel
theorem dX5_base_1 : decode cX5_base 1 = .ok (.iload_n 1, 1) := by decide +kernel
theorem dX5_base_2 : decode cX5_base 2 = .ok (.invokevirtual 177, 3) := by decide +kernel
theorem dX5_base_5 : decode cX5_base 5 = .ok (.aload_n 0, 1) := by decide +kernel
theorem dX5_base_6 : decode cX5_base 6 = .ok (.getfield 19, 3) := by decide +kernel
theorem dX5_base_9 : decode cX5_base 9 = .ok (.getfield 184, 3) := by decide +kernel
theorem dX5_base_12 : decode cX5_base 12 = .ok (.iload_n 1, 1) := by decide +kernel
theorem dX5_base_13 : decode cX5_base 13 = .ok (.aaload, 1) := by decide +kernel
theorem dX5_base_14 : decode cX5_base 14 = .ok (.astore 4, 2) := by decide +kernel
theorem dX5_base_16 : decode cX5_base 16 = .ok (.aload 4, 2) := by decide +kernel
theorem dX5_base_18 : decode cX5_base 18 = .ok (.iload_n 2, 1) := by decide +kernel
theorem dX5_base_19 : decode cX5_base 19 = .ok (.invokevirtual 119, 3) := by decide +kernel
theorem dX5_base_22 : decode cX5_base 22 = .ok (.ifCond .ne 13, 3) := by decide +kernel
theorem dX5_base_25 : decode cX5_base 25 = .ok (.new 54, 3) := by decide +kernel
theorem dX5_base_28 : decode cX5_base 28 = .ok (.dup, 1) := by decide +kernel
theorem dX5_base_29 : decode cX5_base 29 = .ok (.ldc 145, 2) := by decide +kernel
theorem dX5_base_31 : decode cX5_base 31 = .ok (.invokespecial 58, 3) := by decide +kernel
theorem dX5_base_34 : decode cX5_base 34 = .ok (.athrow, 1) := by decide +kernel
theorem dX5_base_35 : decode cX5_base 35 = .ok (.aload 4, 2) := by decide +kernel
theorem dX5_base_37 : decode cX5_base 37 = .ok (.getfield 246, 3) := by decide +kernel
theorem dX5_base_40 : decode cX5_base 40 = .ok (.iload_n 2, 1) := by decide +kernel
theorem dX5_base_41 : decode cX5_base 41 = .ok (.iaload, 1) := by decide +kernel
theorem dX5_base_42 : decode cX5_base 42 = .ok (.istore 5, 2) := by decide +kernel
theorem dX5_base_44 : decode cX5_base 44 = .ok (.iload_n 3, 1) := by decide +kernel
theorem dX5_base_45 : decode cX5_base 45 = .ok (.iconst (-1), 1) := by decide +kernel
theorem dX5_base_46 : decode cX5_base 46 = .ok (.if_icmp .lt 9, 3) := by decide +kernel
theorem dX5_base_49 : decode cX5_base 49 = .ok (.iload_n 3, 1) := by decide +kernel
theorem dX5_base_50 : decode cX5_base 50 = .ok (.iload 5, 2) := by decide +kernel
theorem dX5_base_52 : decode cX5_base 52 = .ok (.if_icmp .lt 13, 3) := by decide +kernel
theorem dX5_base_55 : decode cX5_base 55 = .ok (.new 228, 3) := by decide +kernel
theorem dX5_base_58 : decode cX5_base 58 = .ok (.dup, 1) := by decide +kernel
theorem dX5_base_59 : decode cX5_base 59 = .ok (.ldc 254, 2) := by decide +kernel
theorem dX5_base_61 : decode cX5_base 61 = .ok (.invokespecial 232, 3) := by decide +kernel
theorem dX5_base_64 : decode cX5_base 64 = .ok (.athrow, 1) := by decide +kernel
theorem dX5_base_65 : decode cX5_base 65 = .ok (.iload_n 3, 1) := by decide +kernel
theorem dX5_base_66 : decode cX5_base 66 = .ok (.iconst (-1), 1) := by decide +kernel
theorem dX5_base_67 : decode cX5_base 67 = .ok (.if_icmp .ne 8, 3) := by decide +kernel
theorem dX5_base_70 : decode cX5_base 70 = .ok (.iload 5, 2) := by decide +kernel
theorem dX5_base_72 : decode cX5_base 72 = .ok (.goto 17, 3) := by decide +kernel
theorem dX5_base_75 : decode cX5_base 75 = .ok (.aload 4, 2) := by decide +kernel
theorem dX5_base_77 : decode cX5_base 77 = .ok (.getfield 256, 3) := by decide +kernel
theorem dX5_base_80 : decode cX5_base 80 = .ok (.iload_n 2, 1) := by decide +kernel
theorem dX5_base_81 : decode cX5_base 81 = .ok (.iaload, 1) := by decide +kernel
theorem dX5_base_82 : decode cX5_base 82 = .ok (.i2l, 1) := by decide +kernel
theorem dX5_base_83 : decode cX5_base 83 = .ok (.iload 5, 2) := by decide +kernel
theorem dX5_base_85 : decode cX5_base 85 = .ok (.iload_n 3, 1) := by decide +kernel
theorem dX5_base_86 : decode cX5_base 86 = .ok (.invokestatic 258, 3) := by decide +kernel
theorem dX5_base_89 : decode cX5_base 89 = .ok (.ireturn, 1) := by decide +kernel
theorem dX5_found_0 : decode cX5_found 0 = .ok (.iload_n 1, 1) := by decide +kernel
theorem dX5_found_1 : decode cX5_found 1 = .ok (.iload_n 2, 1) := by decide +kernel
theorem dX5_found_2 : decode cX5_found 2 = .ok (.invokestatic 262, 3) := by decide +kernel
theorem dX5_found_5 : decode cX5_found 5 = .ok (.iconst 0, 1) := by decide +kernel
theorem dX5_found_6 : decode cX5_found 6 = .ok (.istore_n 3, 1) := by decide +kernel
theorem dX5_found_7 : decode cX5_found 7 = .ok (.iconst 0, 1) := by decide +kernel
theorem dX5_found_8 : decode cX5_found 8 = .ok (.istore 4, 2) := by decide +kernel
theorem dX5_found_10 : decode cX5_found 10 = .ok (.iload 4, 2) := by decide +kernel
theorem dX5_found_12 : decode cX5_found 12 = .ok (.aload_n 0, 1) := by decide +kernel
theorem dX5_found_13 : decode cX5_found 13 = .ok (.getfield 19, 3) := by decide +kernel
theorem dX5_found_16 : decode cX5_found 16 = .ok (.getfield 61, 3) := by decide +kernel
theorem dX5_found_19 : decode cX5_found 19 = .ok (.if_icmp .ge 30, 3) := by decide +kernel
theorem dX5_found_22 : decode cX5_found 22 = .ok (.aload_n 0, 1) := by decide +kernel
theorem dX5_found_23 : decode cX5_found 23 = .ok (.getfield 19, 3) := by decide +kernel
theorem dX5_found_26 : decode cX5_found 26 = .ok (.getfield 184, 3) := by decide +kernel
theorem dX5_found_29 : decode cX5_found 29 = .ok (.iload 4, 2) := by decide +kernel
theorem dX5_found_31 : decode cX5_found 31 = .ok (.aaload, 1) := by decide +kernel
theorem dX5_found_32 : decode cX5_found 32 = .ok (.iload_n 1, 1) := by decide +kernel
theorem dX5_found_33 : decode cX5_found 33 = .ok (.iload_n 2, 1) := by decide +kernel
theorem dX5_found_34 : decode cX5_found 34 = .ok (.invokevirtual 265, 3) := by decide +kernel
theorem dX5_found_37 : decode cX5_found 37 = .ok (.ifCond .eq 6, 3) := by decide +kernel
theorem dX5_found_40 : decode cX5_found 40 = .ok (.iinc 3 1, 3) := by decide +kernel
theorem dX5_found_43 : decode cX5_found 43 = .ok (.iinc 4 1, 3) := by decide +kernel
theorem dX5_found_46 : decode cX5_found 46 = .ok (.goto (-36), 3) := by decide +kernel
theorem dX5_found_49 : decode cX5_found 49 = .ok (.iload_n 3, 1) := by decide +kernel
theorem dX5_found_50 : decode cX5_found 50 = .ok (.ireturn, 1) := by decide +kernel
theorem dX5_mean_0 : decode cX5_mean 0 = .ok (.iload_n 1, 1) := by decide +kernel
theorem dX5_mean_1 : decode cX5_mean 1 = .ok (.iload_n 2, 1) := by decide +kernel
theorem dX5_mean_2 : decode cX5_mean 2 = .ok (.invokestatic 262, 3) := by decide +kernel
theorem dX5_mean_5 : decode cX5_mean 5 = .ok (.iconst 0, 1) := by decide +kernel
theorem dX5_mean_6 : decode cX5_mean 6 = .ok (.istore_n 3, 1) := by decide +kernel
theorem dX5_mean_7 : decode cX5_mean 7 = .ok (.fconst 0, 1) := by decide +kernel
theorem dX5_mean_8 : decode cX5_mean 8 = .ok (.fstore 4, 2) := by decide +kernel
theorem dX5_mean_10 : decode cX5_mean 10 = .ok (.iconst 0, 1) := by decide +kernel
theorem dX5_mean_11 : decode cX5_mean 11 = .ok (.istore 5, 2) := by decide +kernel
theorem dX5_mean_13 : decode cX5_mean 13 = .ok (.iload 5, 2) := by decide +kernel
theorem dX5_mean_15 : decode cX5_mean 15 = .ok (.aload_n 0, 1) := by decide +kernel
theorem dX5_mean_16 : decode cX5_mean 16 = .ok (.getfield 19, 3) := by decide +kernel
theorem dX5_mean_19 : decode cX5_mean 19 = .ok (.getfield 61, 3) := by decide +kernel
theorem dX5_mean_22 : decode cX5_mean 22 = .ok (.if_icmp .ge 53, 3) := by decide +kernel
theorem dX5_mean_25 : decode cX5_mean 25 = .ok (.aload_n 0, 1) := by decide +kernel
theorem dX5_mean_26 : decode cX5_mean 26 = .ok (.getfield 19, 3) := by decide +kernel
theorem dX5_mean_29 : decode cX5_mean 29 = .ok (.getfield 184, 3) := by decide +kernel
theorem dX5_mean_32 : decode cX5_mean 32 = .ok (.iload 5, 2) := by decide +kernel
theorem dX5_mean_34 : decode cX5_mean 34 = .ok (.aaload, 1) := by decide +kernel
theorem dX5_mean_35 : decode cX5_mean 35 = .ok (.iload_n 1, 1) := by decide +kernel
theorem dX5_mean_36 : decode cX5_mean 36 = .ok (.iload_n 2, 1) := by decide +kernel
theorem dX5_mean_37 : decode cX5_mean 37 = .ok (.invokevirtual 265, 3) := by decide +kernel
theorem dX5_mean_40 : decode cX5_mean 40 = .ok (.ifCond .eq 29, 3) := by decide +kernel
theorem dX5_mean_43 : decode cX5_mean 43 = .ok (.iinc 3 1, 3) := by decide +kernel
theorem dX5_mean_46 : decode cX5_mean 46 = .ok (.fload 4, 2) := by decide +kernel
theorem dX5_mean_48 : decode cX5_mean 48 = .ok (.aload_n 0, 1) := by decide +kernel
theorem dX5_mean_49 : decode cX5_mean 49 = .ok (.getfield 19, 3) := by decide +kernel
theorem dX5_mean_52 : decode cX5_mean 52 = .ok (.getfield 184, 3) := by decide +kernel
theorem dX5_mean_55 : decode cX5_mean 55 = .ok (.iload 5, 2) := by decide +kernel
theorem dX5_mean_57 : decode cX5_mean 57 = .ok (.aaload, 1) := by decide +kernel
theorem dX5_mean_58 : decode cX5_mean 58 = .ok (.getfield 134, 3) := by decide +kernel
theorem dX5_mean_61 : decode cX5_mean 61 = .ok (.i2f, 1) := by decide +kernel
theorem dX5_mean_62 : decode cX5_mean 62 = .ok (.ldc_w 268, 3) := by decide +kernel
theorem dX5_mean_65 : decode cX5_mean 65 = .ok (.fmul, 1) := by decide +kernel
theorem dX5_mean_66 : decode cX5_mean 66 = .ok (.fadd, 1) := by decide +kernel
theorem dX5_mean_67 : decode cX5_mean 67 = .ok (.fstore 4, 2) := by decide +kernel
theorem dX5_mean_69 : decode cX5_mean 69 = .ok (.iinc 5 1, 3) := by decide +kernel
theorem dX5_mean_72 : decode cX5_mean 72 = .ok (.goto (-59), 3) := by decide +kernel
theorem dX5_mean_75 : decode cX5_mean 75 = .ok (.iload_n 3, 1) := by decide +kernel
theorem dX5_mean_76 : decode cX5_mean 76 = .ok (.ifCond .ne 14, 3) := by decide +kernel
theorem dX5_mean_79 : decode cX5_mean 79 = .ok (.new 208, 3) := by decide +kernel
theorem dX5_mean_82 : decode cX5_mean 82 = .ok (.dup, 1) := by decide +kernel
theorem dX5_mean_83 : decode cX5_mean 83 = .ok (.ldc_w 269, 3) := by decide +kernel
theorem dX5_mean_86 : decode cX5_mean 86 = .ok (.invokespecial 212, 3) := by decide +kernel
theorem dX5_mean_89 : decode cX5_mean 89 = .ok (.athrow, 1) := by decide +kernel
theorem dX5_mean_90 : decode cX5_mean 90 = .ok (.fload 4, 2) := by decide +kernel
theorem dX5_mean_92 : decode cX5_mean 92 = .ok (.iload_n 3, 1) := by decide +kernel
theorem dX5_mean_93 : decode cX5_mean 93 = .ok (.i2f, 1) := by decide +kernel
theorem dX5_mean_94 : decode cX5_mean 94 = .ok (.fdiv, 1) := by decide +kernel
theorem dX5_mean_95 : decode cX5_mean 95 = .ok (.freturn, 1) := by decide +kernel
theorem dX5_requireRecord_0 : decode cX5_requireRecord 0 = .ok (.iload_n 1, 1) := by decide +kernel
theorem dX5_requireRecord_1 : decode cX5_requireRecord 1 = .ok (.ifCond .lt 14, 3) := by decide +kernel
theorem dX5_requireRecord_4 : decode cX5_requireRecord 4 = .ok (.iload_n 1, 1) := by decide +kernel
theorem dX5_requireRecord_5 : decode cX5_requireRecord 5 = .ok (.aload_n 0, 1) := by decide +kernel
theorem dX5_requireRecord_6 : decode cX5_requireRecord 6 = .ok (.getfield 19, 3) := by decide +kernel
theorem dX5_requireRecord_9 : decode cX5_requireRecord 9 = .ok (.getfield 61, 3) := by decide +kernel
theorem dX5_requireRecord_12 : decode cX5_requireRecord 12 = .ok (.if_icmp .lt 14, 3) := by decide +kernel
theorem dX5_requireRecord_15 : decode cX5_requireRecord 15 = .ok (.new 54, 3) := by decide +kernel
theorem dX5_requireRecord_18 : decode cX5_requireRecord 18 = .ok (.dup, 1) := by decide +kernel
theorem dX5_requireRecord_19 : decode cX5_requireRecord 19 = .ok (.ldc_w 271, 3) := by decide +kernel
theorem dX5_requireRecord_22 : decode cX5_requireRecord 22 = .ok (.invokespecial 58, 3) := by decide +kernel
theorem dX5_requireRecord_25 : decode cX5_requireRecord 25 = .ok (.athrow, 1) := by decide +kernel
theorem dX5_requireRecord_26 : decode cX5_requireRecord 26 = .ok (.return_, 1) := by decide +kernel
theorem dX5_requireRegion_0 : decode cX5_requireRegion 0 = .ok (.iload_n 0, 1) := by decide +kernel
theorem dX5_requireRegion_1 : decode cX5_requireRegion 1 = .ok (.iconst 1, 1) := by decide +kernel
theorem dX5_requireRegion_2 : decode cX5_requireRegion 2 = .ok (.if_icmp .lt 15, 3) := by decide +kernel
theorem dX5_requireRegion_5 : decode cX5_requireRegion 5 = .ok (.iload_n 0, 1) := by decide +kernel
theorem dX5_requireRegion_6 : decode cX5_requireRegion 6 = .ok (.iload_n 1, 1) := by decide +kernel
theorem dX5_requireRegion_7 : decode cX5_requireRegion 7 = .ok (.if_icmp .gt 10, 3) := by decide +kernel
theorem dX5_requireRegion_10 : decode cX5_requireRegion 10 = .ok (.iload_n 1, 1) := by decide +kernel
theorem dX5_requireRegion_11 : decode cX5_requireRegion 11 = .ok (.sipush 255, 3) := by decide +kernel
theorem dX5_requireRegion_14 : decode cX5_requireRegion 14 = .ok (.if_icmp .le 14, 3) := by decide +kernel
theorem dX5_requireRegion_17 : decode cX5_requireRegion 17 = .ok (.new 54, 3) := by decide +kernel
theorem dX5_requireRegion_20 : decode cX5_requireRegion 20 = .ok (.dup, 1) := by decide +kernel
theorem dX5_requireRegion_21 : decode cX5_requireRegion 21 = .ok (.ldc_w 273, 3) := by decide +kernel
theorem dX5_requireRegion_24 : decode cX5_requireRegion 24 = .ok (.invokespecial 58, 3) := by decide +kernel
theorem dX5_requireRegion_27 : decode cX5_requireRegion 27 = .ok (.athrow, 1) := by decide +kernel
theorem dX5_requireRegion_28 : decode cX5_requireRegion 28 = .ok (.return_, 1) := by decide +kernel
theorem dX5_takeTyped_0 : decode cX5_takeTyped 0 = .ok (.aload_n 0, 1) := by decide +kernel
theorem dX5_takeTyped_1 : decode cX5_takeTyped 1 = .ok (.getfield 47, 3) := by decide +kernel
theorem dX5_takeTyped_4 : decode cX5_takeTyped 4 = .ok (.aload_n 0, 1) := by decide +kernel
theorem dX5_takeTyped_5 : decode cX5_takeTyped 5 = .ok (.getfield 34, 3) := by decide +kernel
theorem dX5_takeTyped_8 : decode cX5_takeTyped 8 = .ok (.aload_n 0, 1) := by decide +kernel
theorem dX5_takeTyped_9 : decode cX5_takeTyped 9 = .ok (.getfield 10, 3) := by decide +kernel
theorem dX5_takeTyped_12 : decode cX5_takeTyped 12 = .ok (.invokevirtual 275, 3) := by decide +kernel
theorem dX5_takeTyped_15 : decode cX5_takeTyped 15 = .ok (.ifCond .ne 5, 3) := by decide +kernel
theorem dX5_takeTyped_18 : decode cX5_takeTyped 18 = .ok (.iconst 0, 1) := by decide +kernel
theorem dX5_takeTyped_19 : decode cX5_takeTyped 19 = .ok (.ireturn, 1) := by decide +kernel
theorem dX5_takeTyped_20 : decode cX5_takeTyped 20 = .ok (.aload_n 0, 1) := by decide +kernel
theorem dX5_takeTyped_21 : decode cX5_takeTyped 21 = .ok (.getfield 51, 3) := by decide +kernel
theorem dX5_takeTyped_24 : decode cX5_takeTyped 24 = .ok (.aload_n 0, 1) := by decide +kernel
theorem dX5_takeTyped_25 : decode cX5_takeTyped 25 = .ok (.getfield 34, 3) := by decide +kernel
theorem dX5_takeTyped_28 : decode cX5_takeTyped 28 = .ok (.invokevirtual 222, 3) := by decide +kernel
theorem dX5_takeTyped_31 : decode cX5_takeTyped 31 = .ok (.aload_n 0, 1) := by decide +kernel
theorem dX5_takeTyped_32 : decode cX5_takeTyped 32 = .ok (.getfield 51, 3) := by decide +kernel
theorem dX5_takeTyped_35 : decode cX5_takeTyped 35 = .ok (.aload_n 0, 1) := by decide +kernel
theorem dX5_takeTyped_36 : decode cX5_takeTyped 36 = .ok (.getfield 47, 3) := by decide +kernel
theorem dX5_takeTyped_39 : decode cX5_takeTyped 39 = .ok (.invokevirtual 279, 3) := by decide +kernel
theorem dX5_takeTyped_42 : decode cX5_takeTyped 42 = .ok (.ireturn, 1) := by decide +kernel
theorem dX5_isWithin_0 : decode cX5_isWithin 0 = .ok (.iload_n 0, 1) := by decide +kernel
theorem dX5_isWithin_1 : decode cX5_isWithin 1 = .ok (.ifCond .lt 12, 3) := by decide +kernel
theorem dX5_isWithin_4 : decode cX5_isWithin 4 = .ok (.iload_n 0, 1) := by decide +kernel
theorem dX5_isWithin_5 : decode cX5_isWithin 5 = .ok (.iload_n 1, 1) := by decide +kernel
theorem dX5_isWithin_6 : decode cX5_isWithin 6 = .ok (.if_icmp .gt 7, 3) := by decide +kernel
theorem dX5_isWithin_9 : decode cX5_isWithin 9 = .ok (.iconst 1, 1) := by decide +kernel
theorem dX5_isWithin_10 : decode cX5_isWithin 10 = .ok (.goto 4, 3) := by decide +kernel
theorem dX5_isWithin_13 : decode cX5_isWithin 13 = .ok (.iconst 0, 1) := by decide +kernel
theorem dX5_isWithin_14 : decode cX5_isWithin 14 = .ok (.ireturn, 1) := by decide +kernel
theorem dX5_isSample_0 : decode cX5_isSample 0 = .ok (.iload_n 0, 1) := by decide +kernel
theorem dX5_isSample_1 : decode cX5_isSample 1 = .ok (.ifCond .lt 12, 3) := by decide +kernel
theorem dX5_isSample_4 : decode cX5_isSample 4 = .ok (.iload_n 0, 1) := by decide +kernel
theorem dX5_isSample_5 : decode cX5_isSample 5 = .ok (.iconst 2, 1) := by decide +kernel
theorem dX5_isSample_6 : decode cX5_isSample 6 = .ok (.if_icmp .ge 7, 3) := by decide +kernel
theorem dX5_isSample_9 : decode cX5_isSample 9 = .ok (.iconst 1, 1) := by decide +kernel
theorem dX5_isSample_10 : decode cX5_isSample 10 = .ok (.goto 4, 3) := by decide +kernel
theorem dX5_isSample_13 : decode cX5_isSample 13 = .ok (.iconst 0, 1) := by decide +kernel
theorem dX5_isSample_14 : decode cX5_isSample 14 = .ok (.ireturn, 1) := by decide +kernel
theorem dX5_lowBases_0 : decode cX5_lowBases 0 = .ok (.iconst 1, 1) := by decide +kernel
theorem dX5_lowBases_1 : decode cX5_lowBases 1 = .ok (.iconst 2, 1) := by decide +kernel
theorem dX5_lowBases_2 : decode cX5_lowBases 2 = .ok (.iload_n 0, 1) := by decide +kernel
theorem dX5_lowBases_3 : decode cX5_lowBases 3 = .ok (.imul, 1) := by decide +kernel
theorem dX5_lowBases_4 : decode cX5_lowBases 4 = .ok (.ishl, 1) := by decide +kernel
theorem dX5_lowBases_5 : decode cX5_lowBases 5 = .ok (.iconst 1, 1) := by decide +kernel
theorem dX5_lowBases_6 : decode cX5_lowBases 6 = .ok (.isub, 1) := by decide +kernel
theorem dX5_lowBases_7 : decode cX5_lowBases 7 = .ok (.ireturn, 1) := by decide +kernel
theorem dX5_baseOf_0 : decode cX5_baseOf 0 = .ok (.lload_n 0, 1) := by decide +kernel
theorem dX5_baseOf_1 : decode cX5_baseOf 1 = .ok (.iconst 2, 1) := by decide +kernel
theorem dX5_baseOf_2 : decode cX5_baseOf 2 = .ok (.iload_n 2, 1) := by decide +kernel
theorem dX5_baseOf_3 : decode cX5_baseOf 3 = .ok (.iconst 1, 1) := by decide +kernel
theorem dX5_baseOf_4 : decode cX5_baseOf 4 = .ok (.isub, 1) := by decide +kernel
theorem dX5_baseOf_5 : decode cX5_baseOf 5 = .ok (.iload_n 3, 1) := by decide +kernel
theorem dX5_baseOf_6 : decode cX5_baseOf 6 = .ok (.isub, 1) := by decide +kernel
theorem dX5_baseOf_7 : decode cX5_baseOf 7 = .ok (.imul, 1) := by decide +kernel
theorem dX5_baseOf_8 : decode cX5_baseOf 8 = .ok (.lushr, 1) := by decide +kernel
theorem dX5_baseOf_9 : decode cX5_baseOf 9 = .ok (.l2i, 1) := by decide +kernel
theorem dX5_baseOf_10 : decode cX5_baseOf 10 = .ok (.iconst 3, 1) := by decide +kernel
theorem dX5_baseOf_11 : decode cX5_baseOf 11 = .ok (.iand, 1) := by decide +kernel
theorem dX5_baseOf_12 : decode cX5_baseOf 12 = .ok (.ireturn, 1) := by decide +kernel
theorem dX5_pairNumber_0 : decode cX5_pairNumber 0 = .ok (.iload_n 0, 1) := by decide +kernel
theorem dX5_pairNumber_1 : decode cX5_pairNumber 1 = .ok (.iload_n 1, 1) := by decide +kernel
theorem dX5_pairNumber_2 : decode cX5_pairNumber 2 = .ok (.invokestatic 283, 3) := by decide +kernel
theorem dX5_pairNumber_5 : decode cX5_pairNumber 5 = .ok (.istore_n 2, 1) := by decide +kernel
theorem dX5_pairNumber_6 : decode cX5_pairNumber 6 = .ok (.iload_n 0, 1) := by decide +kernel
theorem dX5_pairNumber_7 : decode cX5_pairNumber 7 = .ok (.iload_n 1, 1) := by decide +kernel
theorem dX5_pairNumber_8 : decode cX5_pairNumber 8 = .ok (.invokestatic 288, 3) := by decide +kernel
theorem dX5_pairNumber_11 : decode cX5_pairNumber 11 = .ok (.istore_n 3, 1) := by decide +kernel
theorem dX5_pairNumber_12 : decode cX5_pairNumber 12 = .ok (.iload_n 3, 1) := by decide +kernel
theorem dX5_pairNumber_13 : decode cX5_pairNumber 13 = .ok (.iload_n 3, 1) := by decide +kernel
theorem dX5_pairNumber_14 : decode cX5_pairNumber 14 = .ok (.iconst 1, 1) := by decide +kernel
theorem dX5_pairNumber_15 : decode cX5_pairNumber 15 = .ok (.iadd, 1) := by decide +kernel
theorem dX5_pairNumber_16 : decode cX5_pairNumber 16 = .ok (.imul, 1) := by decide +kernel
theorem dX5_pairNumber_17 : decode cX5_pairNumber 17 = .ok (.iconst 2, 1) := by decide +kernel
theorem dX5_pairNumber_18 : decode cX5_pairNumber 18 = .ok (.idiv, 1) := by decide +kernel
theorem dX5_pairNumber_19 : decode cX5_pairNumber 19 = .ok (.iload_n 2, 1) := by decide +kernel
theorem dX5_pairNumber_20 : decode cX5_pairNumber 20 = .ok (.iadd, 1) := by decide +kernel
theorem dX5_pairNumber_21 : decode cX5_pairNumber 21 = .ok (.ireturn, 1) := by decide +kernel
end
section
theorem dX6_init_0 : decode cX6_init 0 = .ok (.aload_n 0, 1) := by decide +kernel
theorem dX6_init_1 : decode cX6_init 1 = .ok (.invokespecial 1, 3) := by decide +kernel
theorem dX6_init_4 : decode cX6_init 4 = .ok (.aload_n 0, 1) := by decide +kernel
theorem dX6_init_5 : decode cX6_init 5 = .ok (.sipush 162, 3) := by decide +kernel
theorem dX6_init_8 : decode cX6_init 8 = .ok (.newarray .int, 2) := by decide +kernel
theorem dX6_init_10 : decode cX6_init 10 = .ok (.putfield 7, 3) := by decide +kernel
theorem dX6_init_13 : decode cX6_init 13 = .ok (.aload_n 0, 1) := by decide +kernel
theorem dX6_init_14 : decode cX6_init 14 = .ok (.sipush 1230, 3) := by decide +kernel
theorem dX6_init_17 : decode cX6_init 17 = .ok (.newarray .int, 2) := by decide +kernel
theorem dX6_init_19 : decode cX6_init 19 = .ok (.putfield 13, 3) := by decide +kernel
theorem dX6_init_22 : decode cX6_init 22 = .ok (.aload_n 0, 1) := by decide +kernel
theorem dX6_init_23 : decode cX6_init 23 = .ok (.sipush 130, 3) := by decide +kernel
theorem dX6_init_26 : decode cX6_init 26 = .ok (.newarray .int, 2) := by decide +kernel
theorem dX6_init_28 : decode cX6_init 28 = .ok (.putfield 16, 3) := by decide +kernel
theorem dX6_init_31 : decode cX6_init 31 = .ok (.aload_n 0, 1) := by decide +kernel
theorem dX6_init_32 : decode cX6_init 32 = .ok (.sipush 130, 3) := by decide +kernel
theorem dX6_init_35 : decode cX6_init 35 = .ok (.newarray .int, 2) := by decide +kernel
theorem dX6_init_37 : decode cX6_init 37 = .ok (.putfield 19, 3) := by decide +kernel
theorem dX6_init_40 : decode cX6_init 40 = .ok (.aload_n 0, 1) := by decide +kernel
theorem dX6_init_41 : decode cX6_init 41 = .ok (.bipush 8, 2) := by decide +kernel
theorem dX6_init_43 : decode cX6_init 43 = .ok (.newarray .int, 2) := by decide +kernel
theorem dX6_init_45 : decode cX6_init 45 = .ok (.putfield 22, 3) := by decide +kernel
theorem dX6_init_48 : decode cX6_init 48 = .ok (.return_, 1) := by decide +kernel
theorem dX6_thrown_0 : decode cX6_thrown 0 = .ok (.aload_n 0, 1) := by decide +kernel
theorem dX6_thrown_1 : decode cX6_thrown 1 = .ok (.getfield 25, 3) := by decide +kernel
theorem dX6_thrown_4 : decode cX6_thrown 4 = .ok (.ireturn, 1) := by decide +kernel
theorem dX6_throwing_0 : decode cX6_throwing 0 = .ok (.aload_n 0, 1) := by decide +kernel
theorem dX6_throwing_1 : decode cX6_throwing 1 = .ok (.iload_n 1, 1) := by decide +kernel
theorem dX6_throwing_2 : decode cX6_throwing 2 = .ok (.ifCond .eq 7, 3) := by decide +kernel
theorem dX6_throwing_5 : decode cX6_throwing 5 = .ok (.iconst 1, 1) := by decide +kernel
theorem dX6_throwing_6 : decode cX6_throwing 6 = .ok (.goto 12, 3) := by decide +kernel
theorem dX6_throwing_9 : decode cX6_throwing 9 = .ok (.iload_n 2, 1) := by decide +kernel
theorem dX6_throwing_10 : decode cX6_throwing 10 = .ok (.ifCond .eq 7, 3) := by decide +kernel
theorem dX6_throwing_13 : decode cX6_throwing 13 = .ok (.iconst 2, 1) := by decide +kernel
theorem dX6_throwing_14 : decode cX6_throwing 14 = .ok (.goto 4, 3) := by decide +kernel
theorem dX6_throwing_17 : decode cX6_throwing 17 = .ok (.iconst 0, 1) := by decide +kernel
theorem dX6_throwing_18 : decode cX6_throwing 18 = .ok (.putfield 25, 3) := by decide +kernel
theorem dX6_throwing_21 : decode cX6_throwing 21 = .ok (.aload_n 0, 1) := by decide +kernel
theorem dX6_throwing_22 : decode cX6_throwing 22 = .ok (.getfield 25, 3) := by decide +kernel
theorem dX6_throwing_25 : decode cX6_throwing 25 = .ok (.ifCond .le 7, 3) := by decide +kernel
theorem dX6_throwing_28 : decode cX6_throwing 28 = .ok (.iconst 1, 1) := by decide +kernel
theorem dX6_throwing_29 : decode cX6_throwing 29 = .ok (.goto 4, 3) := by decide +kernel
theorem dX6_throwing_32 : decode cX6_throwing 32 = .ok (.iconst 0, 1) := by decide +kernel
theorem dX6_throwing_33 : decode cX6_throwing 33 = .ok (.ireturn, 1) := by decide +kernel
theorem dX6_out_0 : decode cX6_out 0 = .ok (.iload_n 0, 1) := by decide +kernel
theorem dX6_out_1 : decode cX6_out 1 = .ok (.ifCond .lt 8, 3) := by decide +kernel
theorem dX6_out_4 : decode cX6_out 4 = .ok (.iload_n 0, 1) := by decide +kernel
theorem dX6_out_5 : decode cX6_out 5 = .ok (.iload_n 1, 1) := by decide +kernel
theorem dX6_out_6 : decode cX6_out 6 = .ok (.if_icmp .lt 7, 3) := by decide +kernel
theorem dX6_out_9 : decode cX6_out 9 = .ok (.iconst 1, 1) := by decide +kernel
theorem dX6_out_10 : decode cX6_out 10 = .ok (.goto 4, 3) := by decide +kernel
theorem dX6_out_13 : decode cX6_out 13 = .ok (.iconst 0, 1) := by decide +kernel
theorem dX6_out_14 : decode cX6_out 14 = .ok (.ireturn, 1) := by decide +kernel
theorem dX6_get_0 : decode cX6_get 0 = .ok (.aload_n 0, 1) := by decide +kernel
theorem dX6_get_1 : decode cX6_get 1 = .ok (.getfield 13, 3) := by decide +kernel
theorem dX6_get_4 : decode cX6_get 4 = .ok (.bipush 41, 2) := by decide +kernel
theorem dX6_get_6 : decode cX6_get 6 = .ok (.iload_n 1, 1) := by decide +kernel
theorem dX6_get_7 : decode cX6_get 7 = .ok (.imul, 1) := by decide +kernel
theorem dX6_get_8 : decode cX6_get 8 = .ok (.iload_n 2, 1) := by decide +kernel
theorem dX6_get_9 : decode cX6_get 9 = .ok (.iadd, 1) := by decide +kernel
theorem dX6_get_10 : decode cX6_get 10 = .ok (.iaload, 1) := by decide +kernel
theorem dX6_get_11 : decode cX6_get 11 = .ok (.ireturn, 1) := by decide +kernel
theorem dX6_put_0 : decode cX6_put 0 = .ok (.aload_n 0, 1) := by decide +kernel
theorem dX6_put_1 : decode cX6_put 1 = .ok (.getfield 13, 3) := by decide +kernel
theorem dX6_put_4 : decode cX6_put 4 = .ok (.bipush 41, 2) := by decide +kernel
theorem dX6_put_6 : decode cX6_put 6 = .ok (.iload_n 1, 1) := by decide +kernel
theorem dX6_put_7 : decode cX6_put 7 = .ok (.imul, 1) := by decide +kernel
theorem dX6_put_8 : decode cX6_put 8 = .ok (.iload_n 2, 1) := by decide +kernel
theorem dX6_put_9 : decode cX6_put 9 = .ok (.iadd, 1) := by decide +kernel
theorem dX6_put_10 : decode cX6_put 10 = .ok (.iload_n 3, 1) := by decide +kernel
theorem dX6_put_11 : decode cX6_put 11 = .ok (.iastore, 1) := by decide +kernel
theorem dX6_put_12 : decode cX6_put 12 = .ok (.return_, 1) := by decide +kernel
theorem dX6_copy_0 : decode cX6_copy 0 = .ok (.iconst 0, 1) := by decide +kernel
theorem dX6_copy_1 : decode cX6_copy 1 = .ok (.istore_n 3, 1) := by decide +kernel
theorem dX6_copy_2 : decode cX6_copy 2 = .ok (.iload_n 3, 1) := by decide +kernel
theorem dX6_copy_3 : decode cX6_copy 3 = .ok (.bipush 41, 2) := by decide +kernel
theorem dX6_copy_5 : decode cX6_copy 5 = .ok (.if_icmp .ge 31, 3) := by decide +kernel
theorem dX6_copy_8 : decode cX6_copy 8 = .ok (.aload_n 0, 1) := by decide +kernel
theorem dX6_copy_9 : decode cX6_copy 9 = .ok (.getfield 13, 3) := by decide +kernel
theorem dX6_copy_12 : decode cX6_copy 12 = .ok (.bipush 41, 2) := by decide +kernel
theorem dX6_copy_14 : decode cX6_copy 14 = .ok (.iload_n 2, 1) := by decide +kernel
theorem dX6_copy_15 : decode cX6_copy 15 = .ok (.imul, 1) := by decide +kernel
theorem dX6_copy_16 : decode cX6_copy 16 = .ok (.iload_n 3, 1) := by decide +kernel
theorem dX6_copy_17 : decode cX6_copy 17 = .ok (.iadd, 1) := by decide +kernel
theorem dX6_copy_18 : decode cX6_copy 18 = .ok (.aload_n 0, 1) := by decide +kernel
theorem dX6_copy_19 : decode cX6_copy 19 = .ok (.getfield 13, 3) := by decide +kernel
theorem dX6_copy_22 : decode cX6_copy 22 = .ok (.bipush 41, 2) := by decide +kernel
theorem dX6_copy_24 : decode cX6_copy 24 = .ok (.iload_n 1, 1) := by decide +kernel
theorem dX6_copy_25 : decode cX6_copy 25 = .ok (.imul, 1) := by decide +kernel
theorem dX6_copy_26 : decode cX6_copy 26 = .ok (.iload_n 3, 1) := by decide +kernel
theorem dX6_copy_27 : decode cX6_copy 27 = .ok (.iadd, 1) := by decide +kernel
theorem dX6_copy_28 : decode cX6_copy 28 = .ok (.iaload, 1) := by decide +kernel
theorem dX6_copy_29 : decode cX6_copy 29 = .ok (.iastore, 1) := by decide +kernel
theorem dX6_copy_30 : decode cX6_copy 30 = .ok (.iinc 3 1, 3) := by decide +kernel
theorem dX6_copy_33 : decode cX6_copy 33 = .ok (.goto (-31), 3) := by decide +kernel
theorem dX6_copy_36 : decode cX6_copy 36 = .ok (.return_, 1) := by decide +kernel
theorem dX6_empty_0 : decode cX6_empty 0 = .ok (.iconst 0, 1) := by decide +kernel
theorem dX6_empty_1 : decode cX6_empty 1 = .ok (.istore_n 3, 1) := by decide +kernel
theorem dX6_empty_2 : decode cX6_empty 2 = .ok (.iload_n 3, 1) := by decide +kernel
theorem dX6_empty_3 : decode cX6_empty 3 = .ok (.bipush 41, 2) := by decide +kernel
theorem dX6_empty_5 : decode cX6_empty 5 = .ok (.if_icmp .ge 42, 3) := by decide +kernel
theorem dX6_empty_8 : decode cX6_empty 8 = .ok (.aload_n 0, 1) := by decide +kernel
theorem dX6_empty_9 : decode cX6_empty 9 = .ok (.iload_n 1, 1) := by decide +kernel
theorem dX6_empty_10 : decode cX6_empty 10 = .ok (.iload_n 3, 1) := by decide +kernel
theorem dX6_empty_11 : decode cX6_empty 11 = .ok (.iload_n 3, 1) := by decide +kernel
theorem dX6_empty_12 : decode cX6_empty 12 = .ok (.bipush 15, 2) := by decide +kernel
theorem dX6_empty_14 : decode cX6_empty 14 = .ok (.if_icmp .lt 23, 3) := by decide +kernel
theorem dX6_empty_17 : decode cX6_empty 17 = .ok (.iload_n 3, 1) := by decide +kernel
theorem dX6_empty_18 : decode cX6_empty 18 = .ok (.bipush 21, 2) := by decide +kernel
theorem dX6_empty_20 : decode cX6_empty 20 = .ok (.if_icmp .ge 17, 3) := by decide +kernel
theorem dX6_empty_23 : decode cX6_empty 23 = .ok (.iload_n 3, 1) := by decide +kernel
theorem dX6_empty_24 : decode cX6_empty 24 = .ok (.bipush 15, 2) := by decide +kernel
theorem dX6_empty_26 : decode cX6_empty 26 = .ok (.isub, 1) := by decide +kernel
theorem dX6_empty_27 : decode cX6_empty 27 = .ok (.iconst 3, 1) := by decide +kernel
theorem dX6_empty_28 : decode cX6_empty 28 = .ok (.irem, 1) := by decide +kernel
theorem dX6_empty_29 : decode cX6_empty 29 = .ok (.iconst 2, 1) := by decide +kernel
theorem dX6_empty_30 : decode cX6_empty 30 = .ok (.if_icmp .ge 7, 3) := by decide +kernel
theorem dX6_empty_33 : decode cX6_empty 33 = .ok (.iconst (-1), 1) := by decide +kernel
theorem dX6_empty_34 : decode cX6_empty 34 = .ok (.goto 4, 3) := by decide +kernel
theorem dX6_empty_37 : decode cX6_empty 37 = .ok (.iconst 0, 1) := by decide +kernel
theorem dX6_empty_38 : decode cX6_empty 38 = .ok (.invokevirtual 29, 3) := by decide +kernel
theorem dX6_empty_41 : decode cX6_empty 41 = .ok (.iinc 3 1, 3) := by decide +kernel
theorem dX6_empty_44 : decode cX6_empty 44 = .ok (.goto (-42), 3) := by decide +kernel
theorem dX6_empty_47 : decode cX6_empty 47 = .ok (.aload_n 0, 1) := by decide +kernel
theorem dX6_empty_48 : decode cX6_empty 48 = .ok (.iload_n 1, 1) := by decide +kernel
theorem dX6_empty_49 : decode cX6_empty 49 = .ok (.iconst 0, 1) := by decide +kernel
theorem dX6_empty_50 : decode cX6_empty 50 = .ok (.iload_n 2, 1) := by decide +kernel
theorem dX6_empty_51 : decode cX6_empty 51 = .ok (.invokevirtual 29, 3) := by decide +kernel
theorem dX6_empty_54 : decode cX6_empty 54 = .ok (.return_, 1) := by decide +kernel
theorem dX6_addAllele_0 : decode cX6_addAllele 0 = .ok (.aload_n 0, 1) := by decide +kernel
theorem dX6_addAllele_1 : decode cX6_addAllele 1 = .ok (.iload_n 1, 1) := by decide +kernel
theorem dX6_addAllele_2 : decode cX6_addAllele 2 = .ok (.iconst 1, 1) := by decide +kernel
theorem dX6_addAllele_3 : decode cX6_addAllele 3 = .ok (.invokevirtual 33, 3) := by decide +kernel
theorem dX6_addAllele_6 : decode cX6_addAllele 6 = .ok (.istore 4, 2) := by decide +kernel
theorem dX6_addAllele_8 : decode cX6_addAllele 8 = .ok (.aload_n 0, 1) := by decide +kernel
theorem dX6_addAllele_9 : decode cX6_addAllele 9 = .ok (.iload_n 1, 1) := by decide +kernel
theorem dX6_addAllele_10 : decode cX6_addAllele 10 = .ok (.iconst 2, 1) := by decide +kernel
theorem dX6_addAllele_11 : decode cX6_addAllele 11 = .ok (.iload 4, 2) := by decide +kernel
theorem dX6_addAllele_13 : decode cX6_addAllele 13 = .ok (.iadd, 1) := by decide +kernel
theorem dX6_addAllele_14 : decode cX6_addAllele 14 = .ok (.iload_n 2, 1) := by decide +kernel
theorem dX6_addAllele_15 : decode cX6_addAllele 15 = .ok (.invokevirtual 29, 3) := by decide +kernel
theorem dX6_addAllele_18 : decode cX6_addAllele 18 = .ok (.aload_n 0, 1) := by decide +kernel
theorem dX6_addAllele_19 : decode cX6_addAllele 19 = .ok (.iload_n 1, 1) := by decide +kernel
theorem dX6_addAllele_20 : decode cX6_addAllele 20 = .ok (.bipush 6, 2) := by decide +kernel
theorem dX6_addAllele_22 : decode cX6_addAllele 22 = .ok (.iload 4, 2) := by decide +kernel
theorem dX6_addAllele_24 : decode cX6_addAllele 24 = .ok (.iadd, 1) := by decide +kernel
theorem dX6_addAllele_25 : decode cX6_addAllele 25 = .ok (.iload_n 3, 1) := by decide +kernel
theorem dX6_addAllele_26 : decode cX6_addAllele 26 = .ok (.invokevirtual 29, 3) := by decide +kernel
theorem dX6_addAllele_29 : decode cX6_addAllele 29 = .ok (.aload_n 0, 1) := by decide +kernel
theorem dX6_addAllele_30 : decode cX6_addAllele 30 = .ok (.iload_n 1, 1) := by decide +kernel
theorem dX6_addAllele_31 : decode cX6_addAllele 31 = .ok (.iconst 1, 1) := by decide +kernel
theorem dX6_addAllele_32 : decode cX6_addAllele 32 = .ok (.iload 4, 2) := by decide +kernel
theorem dX6_addAllele_34 : decode cX6_addAllele 34 = .ok (.iconst 1, 1) := by decide +kernel
theorem dX6_addAllele_35 : decode cX6_addAllele 35 = .ok (.iadd, 1) := by decide +kernel
theorem dX6_addAllele_36 : decode cX6_addAllele 36 = .ok (.invokevirtual 29, 3) := by decide +kernel
theorem dX6_addAllele_39 : decode cX6_addAllele 39 = .ok (.return_, 1) := by decide +kernel
theorem dX6_findAllele_0 : decode cX6_findAllele 0 = .ok (.iconst 0, 1) := by decide +kernel
theorem dX6_findAllele_1 : decode cX6_findAllele 1 = .ok (.istore 4, 2) := by decide +kernel
theorem dX6_findAllele_3 : decode cX6_findAllele 3 = .ok (.iload 4, 2) := by decide +kernel
theorem dX6_findAllele_5 : decode cX6_findAllele 5 = .ok (.aload_n 0, 1) := by decide +kernel
theorem dX6_findAllele_6 : decode cX6_findAllele 6 = .ok (.iload_n 1, 1) := by decide +kernel
theorem dX6_findAllele_7 : decode cX6_findAllele 7 = .ok (.iconst 1, 1) := by decide +kernel
theorem dX6_findAllele_8 : decode cX6_findAllele 8 = .ok (.invokevirtual 33, 3) := by decide +kernel
theorem dX6_findAllele_11 : decode cX6_findAllele 11 = .ok (.if_icmp .ge 39, 3) := by decide +kernel
theorem dX6_findAllele_14 : decode cX6_findAllele 14 = .ok (.aload_n 0, 1) := by decide +kernel
theorem dX6_findAllele_15 : decode cX6_findAllele 15 = .ok (.iload_n 1, 1) := by decide +kernel
theorem dX6_findAllele_16 : decode cX6_findAllele 16 = .ok (.iconst 2, 1) := by decide +kernel
theorem dX6_findAllele_17 : decode cX6_findAllele 17 = .ok (.iload 4, 2) := by decide +kernel
theorem dX6_findAllele_19 : decode cX6_findAllele 19 = .ok (.iadd, 1) := by decide +kernel
theorem dX6_findAllele_20 : decode cX6_findAllele 20 = .ok (.invokevirtual 33, 3) := by decide +kernel
theorem dX6_findAllele_23 : decode cX6_findAllele 23 = .ok (.iload_n 2, 1) := by decide +kernel
theorem dX6_findAllele_24 : decode cX6_findAllele 24 = .ok (.if_icmp .ne 20, 3) := by decide +kernel
theorem dX6_findAllele_27 : decode cX6_findAllele 27 = .ok (.aload_n 0, 1) := by decide +kernel
theorem dX6_findAllele_28 : decode cX6_findAllele 28 = .ok (.iload_n 1, 1) := by decide +kernel
theorem dX6_findAllele_29 : decode cX6_findAllele 29 = .ok (.bipush 6, 2) := by decide +kernel
theorem dX6_findAllele_31 : decode cX6_findAllele 31 = .ok (.iload 4, 2) := by decide +kernel
theorem dX6_findAllele_33 : decode cX6_findAllele 33 = .ok (.iadd, 1) := by decide +kernel
theorem dX6_findAllele_34 : decode cX6_findAllele 34 = .ok (.invokevirtual 33, 3) := by decide +kernel
theorem dX6_findAllele_37 : decode cX6_findAllele 37 = .ok (.iload_n 3, 1) := by decide +kernel
theorem dX6_findAllele_38 : decode cX6_findAllele 38 = .ok (.if_icmp .ne 6, 3) := by decide +kernel
theorem dX6_findAllele_41 : decode cX6_findAllele 41 = .ok (.iload 4, 2) := by decide +kernel
theorem dX6_findAllele_43 : decode cX6_findAllele 43 = .ok (.ireturn, 1) := by decide +kernel
theorem dX6_findAllele_44 : decode cX6_findAllele 44 = .ok (.iinc 4 1, 3) := by decide +kernel
theorem dX6_findAllele_47 : decode cX6_findAllele 47 = .ok (.goto (-44), 3) := by decide +kernel
theorem dX6_findAllele_50 : decode cX6_findAllele 50 = .ok (.iconst (-1), 1) := by decide +kernel
theorem dX6_findAllele_51 : decode cX6_findAllele 51 = .ok (.ireturn, 1) := by decide +kernel
theorem dX6_referenceFrom_0 : decode cX6_referenceFrom 0 = .ok (.iconst 0, 1) := by decide +kernel
theorem dX6_referenceFrom_1 : decode cX6_referenceFrom 1 = .ok (.istore_n 3, 1) := by decide +kernel
theorem dX6_referenceFrom_2 : decode cX6_referenceFrom 2 = .ok (.iconst 0, 1) := by decide +kernel
theorem dX6_referenceFrom_3 : decode cX6_referenceFrom 3 = .ok (.istore 4, 2) := by decide +kernel
theorem dX6_referenceFrom_5 : decode cX6_referenceFrom 5 = .ok (.iload 4, 2) := by decide +kernel
theorem dX6_referenceFrom_7 : decode cX6_referenceFrom 7 = .ok (.iload_n 2, 1) := by decide +kernel
theorem dX6_referenceFrom_8 : decode cX6_referenceFrom 8 = .ok (.if_icmp .ge 23, 3) := by decide +kernel
theorem dX6_referenceFrom_11 : decode cX6_referenceFrom 11 = .ok (.iconst 4, 1) := by decide +kernel
theorem dX6_referenceFrom_12 : decode cX6_referenceFrom 12 = .ok (.iload_n 3, 1) := by decide +kernel
theorem dX6_referenceFrom_13 : decode cX6_referenceFrom 13 = .ok (.imul, 1) := by decide +kernel
theorem dX6_referenceFrom_14 : decode cX6_referenceFrom 14 = .ok (.aload_n 0, 1) := by decide +kernel
theorem dX6_referenceFrom_15 : decode cX6_referenceFrom 15 = .ok (.getfield 7, 3) := by decide +kernel
theorem dX6_referenceFrom_18 : decode cX6_referenceFrom 18 = .ok (.iload_n 1, 1) := by decide +kernel
theorem dX6_referenceFrom_19 : decode cX6_referenceFrom 19 = .ok (.iload 4, 2) := by decide +kernel
theorem dX6_referenceFrom_21 : decode cX6_referenceFrom 21 = .ok (.iadd, 1) := by decide +kernel
theorem dX6_referenceFrom_22 : decode cX6_referenceFrom 22 = .ok (.iaload, 1) := by decide +kernel
theorem dX6_referenceFrom_23 : decode cX6_referenceFrom 23 = .ok (.iadd, 1) := by decide +kernel
theorem dX6_referenceFrom_24 : decode cX6_referenceFrom 24 = .ok (.istore_n 3, 1) := by decide +kernel
theorem dX6_referenceFrom_25 : decode cX6_referenceFrom 25 = .ok (.iinc 4 1, 3) := by decide +kernel
theorem dX6_referenceFrom_28 : decode cX6_referenceFrom 28 = .ok (.goto (-23), 3) := by decide +kernel
theorem dX6_referenceFrom_31 : decode cX6_referenceFrom 31 = .ok (.iload_n 3, 1) := by decide +kernel
theorem dX6_referenceFrom_32 : decode cX6_referenceFrom 32 = .ok (.ireturn, 1) := by decide +kernel
theorem dX6_pair_0 : decode cX6_pair 0 = .ok (.iload_n 0, 1) := by decide +kernel
theorem dX6_pair_1 : decode cX6_pair 1 = .ok (.iload_n 1, 1) := by decide +kernel
theorem dX6_pair_2 : decode cX6_pair 2 = .ok (.if_icmp .ge 15, 3) := by decide +kernel
theorem dX6_pair_5 : decode cX6_pair 5 = .ok (.iload_n 1, 1) := by decide +kernel
theorem dX6_pair_6 : decode cX6_pair 6 = .ok (.iload_n 1, 1) := by decide +kernel
theorem dX6_pair_7 : decode cX6_pair 7 = .ok (.iconst 1, 1) := by decide +kernel
theorem dX6_pair_8 : decode cX6_pair 8 = .ok (.iadd, 1) := by decide +kernel
theorem dX6_pair_9 : decode cX6_pair 9 = .ok (.imul, 1) := by decide +kernel
theorem dX6_pair_10 : decode cX6_pair 10 = .ok (.iconst 2, 1) := by decide +kernel
theorem dX6_pair_11 : decode cX6_pair 11 = .ok (.idiv, 1) := by decide +kernel
theorem dX6_pair_12 : decode cX6_pair 12 = .ok (.iload_n 0, 1) := by decide +kernel
theorem dX6_pair_13 : decode cX6_pair 13 = .ok (.iadd, 1) := by decide +kernel
theorem dX6_pair_14 : decode cX6_pair 14 = .ok (.goto 12, 3) := by decide +kernel
theorem dX6_pair_17 : decode cX6_pair 17 = .ok (.iload_n 0, 1) := by decide +kernel
theorem dX6_pair_18 : decode cX6_pair 18 = .ok (.iload_n 0, 1) := by decide +kernel
theorem dX6_pair_19 : decode cX6_pair 19 = .ok (.iconst 1, 1) := by decide +kernel
theorem dX6_pair_20 : decode cX6_pair 20 = .ok (.iadd, 1) := by decide +kernel
theorem dX6_pair_21 : decode cX6_pair 21 = .ok (.imul, 1) := by decide +kernel
theorem dX6_pair_22 : decode cX6_pair 22 = .ok (.iconst 2, 1) := by decide +kernel
theorem dX6_pair_23 : decode cX6_pair 23 = .ok (.idiv, 1) := by decide +kernel
theorem dX6_pair_24 : decode cX6_pair 24 = .ok (.iload_n 1, 1) := by decide +kernel
theorem dX6_pair_25 : decode cX6_pair 25 = .ok (.iadd, 1) := by decide +kernel
theorem dX6_pair_26 : decode cX6_pair 26 = .ok (.ireturn, 1) := by decide +kernel
theorem dX6_pairs_0 : decode cX6_pairs 0 = .ok (.iload_n 0, 1) := by decide +kernel
theorem dX6_pairs_1 : decode cX6_pairs 1 = .ok (.iload_n 0, 1) := by decide +kernel
theorem dX6_pairs_2 : decode cX6_pairs 2 = .ok (.iconst 1, 1) := by decide +kernel
theorem dX6_pairs_3 : decode cX6_pairs 3 = .ok (.iadd, 1) := by decide +kernel
theorem dX6_pairs_4 : decode cX6_pairs 4 = .ok (.imul, 1) := by decide +kernel
theorem dX6_pairs_5 : decode cX6_pairs 5 = .ok (.iconst 2, 1) := by decide +kernel
theorem dX6_pairs_6 : decode cX6_pairs 6 = .ok (.idiv, 1) := by decide +kernel
theorem dX6_pairs_7 : decode cX6_pairs 7 = .ok (.ireturn, 1) := by decide +kernel
theorem dX6_reference_0 : decode cX6_reference 0 = .ok (.iload_n 3, 1) := by decide +kernel
theorem dX6_reference_1 : decode cX6_reference 1 = .ok (.iconst 1, 1) := by decide +kernel
theorem dX6_reference_2 : decode cX6_reference 2 = .ok (.if_icmp .lt 9, 3) := by decide +kernel
theorem dX6_reference_5 : decode cX6_reference 5 = .ok (.iload_n 3, 1) := by decide +kernel
theorem dX6_reference_6 : decode cX6_reference 6 = .ok (.bipush 16, 2) := by decide +kernel
theorem dX6_reference_8 : decode cX6_reference 8 = .ok (.if_icmp .le 7, 3) := by decide +kernel
theorem dX6_reference_11 : decode cX6_reference 11 = .ok (.iconst 1, 1) := by decide +kernel
theorem dX6_reference_12 : decode cX6_reference 12 = .ok (.goto 4, 3) := by decide +kernel
theorem dX6_reference_15 : decode cX6_reference 15 = .ok (.iconst 0, 1) := by decide +kernel
theorem dX6_reference_16 : decode cX6_reference 16 = .ok (.istore 4, 2) := by decide +kernel
theorem dX6_reference_18 : decode cX6_reference 18 = .ok (.aload_n 0, 1) := by decide +kernel
theorem dX6_reference_19 : decode cX6_reference 19 = .ok (.iload 4, 2) := by decide +kernel
theorem dX6_reference_21 : decode cX6_reference 21 = .ok (.iload 4, 2) := by decide +kernel
theorem dX6_reference_23 : decode cX6_reference 23 = .ok (.ifCond .ne 33, 3) := by decide +kernel
theorem dX6_reference_26 : decode cX6_reference 26 = .ok (.aload_n 0, 1) := by decide +kernel
theorem dX6_reference_27 : decode cX6_reference 27 = .ok (.getfield 37, 3) := by decide +kernel
theorem dX6_reference_30 : decode cX6_reference 30 = .ok (.iload_n 3, 1) := by decide +kernel
theorem dX6_reference_31 : decode cX6_reference 31 = .ok (.iadd, 1) := by decide +kernel
theorem dX6_reference_32 : decode cX6_reference 32 = .ok (.sipush 160, 3) := by decide +kernel
theorem dX6_reference_35 : decode cX6_reference 35 = .ok (.if_icmp .gt 17, 3) := by decide +kernel
theorem dX6_reference_38 : decode cX6_reference 38 = .ok (.aload_n 0, 1) := by decide +kernel
theorem dX6_reference_39 : decode cX6_reference 39 = .ok (.getfield 40, 3) := by decide +kernel
theorem dX6_reference_42 : decode cX6_reference 42 = .ok (.ifCond .ne 10, 3) := by decide +kernel
theorem dX6_reference_45 : decode cX6_reference 45 = .ok (.aload_n 0, 1) := by decide +kernel
theorem dX6_reference_46 : decode cX6_reference 46 = .ok (.getfield 44, 3) := by decide +kernel
theorem dX6_reference_49 : decode cX6_reference 49 = .ok (.ifCond .le 7, 3) := by decide +kernel
theorem dX6_reference_52 : decode cX6_reference 52 = .ok (.iconst 1, 1) := by decide +kernel
theorem dX6_reference_53 : decode cX6_reference 53 = .ok (.goto 4, 3) := by decide +kernel
theorem dX6_reference_56 : decode cX6_reference 56 = .ok (.iconst 0, 1) := by decide +kernel
theorem dX6_reference_57 : decode cX6_reference 57 = .ok (.invokevirtual 47, 3) := by decide +kernel
theorem dX6_reference_60 : decode cX6_reference 60 = .ok (.ifCond .eq 5, 3) := by decide +kernel
theorem dX6_reference_63 : decode cX6_reference 63 = .ok (.iconst 0, 1) := by decide +kernel
theorem dX6_reference_64 : decode cX6_reference 64 = .ok (.ireturn, 1) := by decide +kernel
theorem dX6_reference_65 : decode cX6_reference 65 = .ok (.iload_n 3, 1) := by decide +kernel
theorem dX6_reference_66 : decode cX6_reference 66 = .ok (.iconst 1, 1) := by decide +kernel
theorem dX6_reference_67 : decode cX6_reference 67 = .ok (.isub, 1) := by decide +kernel
theorem dX6_reference_68 : decode cX6_reference 68 = .ok (.istore 5, 2) := by decide +kernel
theorem dX6_reference_70 : decode cX6_reference 70 = .ok (.iload 5, 2) := by decide +kernel
theorem dX6_reference_72 : decode cX6_reference 72 = .ok (.ifCond .lt 39, 3) := by decide +kernel
theorem dX6_reference_75 : decode cX6_reference 75 = .ok (.aload_n 0, 1) := by decide +kernel
theorem dX6_reference_76 : decode cX6_reference 76 = .ok (.dup, 1) := by decide +kernel
theorem dX6_reference_77 : decode cX6_reference 77 = .ok (.getfield 37, 3) := by decide +kernel
theorem dX6_reference_80 : decode cX6_reference 80 = .ok (.iconst 1, 1) := by decide +kernel
theorem dX6_reference_81 : decode cX6_reference 81 = .ok (.iadd, 1) := by decide +kernel
theorem dX6_reference_82 : decode cX6_reference 82 = .ok (.putfield 37, 3) := by decide +kernel
theorem dX6_reference_85 : decode cX6_reference 85 = .ok (.aload_n 0, 1) := by decide +kernel
theorem dX6_reference_86 : decode cX6_reference 86 = .ok (.getfield 7, 3) := by decide +kernel
theorem dX6_reference_89 : decode cX6_reference 89 = .ok (.aload_n 0, 1) := by decide +kernel
theorem dX6_reference_90 : decode cX6_reference 90 = .ok (.getfield 37, 3) := by decide +kernel
theorem dX6_reference_93 : decode cX6_reference 93 = .ok (.lload_n 1, 1) := by decide +kernel
theorem dX6_reference_94 : decode cX6_reference 94 = .ok (.iconst 2, 1) := by decide +kernel
theorem dX6_reference_95 : decode cX6_reference 95 = .ok (.iload 5, 2) := by decide +kernel
theorem dX6_reference_97 : decode cX6_reference 97 = .ok (.imul, 1) := by decide +kernel
theorem dX6_reference_98 : decode cX6_reference 98 = .ok (.lshr, 1) := by decide +kernel
theorem dX6_reference_99 : decode cX6_reference 99 = .ok (.ldc2_w 51, 3) := by decide +kernel
theorem dX6_reference_102 : decode cX6_reference 102 = .ok (.land, 1) := by decide +kernel
theorem dX6_reference_103 : decode cX6_reference 103 = .ok (.l2i, 1) := by decide +kernel
theorem dX6_reference_104 : decode cX6_reference 104 = .ok (.iastore, 1) := by decide +kernel
theorem dX6_reference_105 : decode cX6_reference 105 = .ok (.iinc 5 (-1), 3) := by decide +kernel
theorem dX6_reference_108 : decode cX6_reference 108 = .ok (.goto (-38), 3) := by decide +kernel
theorem dX6_reference_111 : decode cX6_reference 111 = .ok (.aload_n 0, 1) := by decide +kernel
theorem dX6_reference_112 : decode cX6_reference 112 = .ok (.getfield 37, 3) := by decide +kernel
theorem dX6_reference_115 : decode cX6_reference 115 = .ok (.ireturn, 1) := by decide +kernel
theorem dX6_draft_0 : decode cX6_draft 0 = .ok (.iload_n 2, 1) := by decide +kernel
theorem dX6_draft_1 : decode cX6_draft 1 = .ok (.iconst 1, 1) := by decide +kernel
theorem dX6_draft_2 : decode cX6_draft 2 = .ok (.if_icmp .lt 26, 3) := by decide +kernel
theorem dX6_draft_5 : decode cX6_draft 5 = .ok (.iload_n 2, 1) := by decide +kernel
theorem dX6_draft_6 : decode cX6_draft 6 = .ok (.bipush 8, 2) := by decide +kernel
theorem dX6_draft_8 : decode cX6_draft 8 = .ok (.if_icmp .gt 20, 3) := by decide +kernel
theorem dX6_draft_11 : decode cX6_draft 11 = .ok (.iload_n 1, 1) := by decide +kernel
theorem dX6_draft_12 : decode cX6_draft 12 = .ok (.iconst 1, 1) := by decide +kernel
theorem dX6_draft_13 : decode cX6_draft 13 = .ok (.if_icmp .lt 15, 3) := by decide +kernel
theorem dX6_draft_16 : decode cX6_draft 16 = .ok (.iload_n 1, 1) := by decide +kernel
theorem dX6_draft_17 : decode cX6_draft 17 = .ok (.aload_n 0, 1) := by decide +kernel
theorem dX6_draft_18 : decode cX6_draft 18 = .ok (.getfield 37, 3) := by decide +kernel
theorem dX6_draft_21 : decode cX6_draft 21 = .ok (.iload_n 2, 1) := by decide +kernel
theorem dX6_draft_22 : decode cX6_draft 22 = .ok (.isub, 1) := by decide +kernel
theorem dX6_draft_23 : decode cX6_draft 23 = .ok (.iconst 1, 1) := by decide +kernel
theorem dX6_draft_24 : decode cX6_draft 24 = .ok (.iadd, 1) := by decide +kernel
theorem dX6_draft_25 : decode cX6_draft 25 = .ok (.if_icmp .le 7, 3) := by decide +kernel
theorem dX6_draft_28 : decode cX6_draft 28 = .ok (.iconst 1, 1) := by decide +kernel
theorem dX6_draft_29 : decode cX6_draft 29 = .ok (.goto 4, 3) := by decide +kernel
theorem dX6_draft_32 : decode cX6_draft 32 = .ok (.iconst 0, 1) := by decide +kernel
theorem dX6_draft_33 : decode cX6_draft 33 = .ok (.istore_n 3, 1) := by decide +kernel
theorem dX6_draft_34 : decode cX6_draft 34 = .ok (.aload_n 0, 1) := by decide +kernel
theorem dX6_draft_35 : decode cX6_draft 35 = .ok (.iload_n 3, 1) := by decide +kernel
theorem dX6_draft_36 : decode cX6_draft 36 = .ok (.iconst 0, 1) := by decide +kernel
theorem dX6_draft_37 : decode cX6_draft 37 = .ok (.invokevirtual 47, 3) := by decide +kernel
theorem dX6_draft_40 : decode cX6_draft 40 = .ok (.ifCond .eq 4, 3) := by decide +kernel
theorem dX6_draft_43 : decode cX6_draft 43 = .ok (.return_, 1) := by decide +kernel
theorem dX6_draft_44 : decode cX6_draft 44 = .ok (.aload_n 0, 1) := by decide +kernel
theorem dX6_draft_45 : decode cX6_draft 45 = .ok (.iconst 1, 1) := by decide +kernel
theorem dX6_draft_46 : decode cX6_draft 46 = .ok (.putfield 40, 3) := by decide +kernel
theorem dX6_draft_49 : decode cX6_draft 49 = .ok (.aload_n 0, 1) := by decide +kernel
theorem dX6_draft_50 : decode cX6_draft 50 = .ok (.bipush 24, 2) := by decide +kernel
theorem dX6_draft_52 : decode cX6_draft 52 = .ok (.iload_n 1, 1) := by decide +kernel
theorem dX6_draft_53 : decode cX6_draft 53 = .ok (.invokevirtual 53, 3) := by decide +kernel
theorem dX6_draft_56 : decode cX6_draft 56 = .ok (.aload_n 0, 1) := by decide +kernel
theorem dX6_draft_57 : decode cX6_draft 57 = .ok (.bipush 24, 2) := by decide +kernel
theorem dX6_draft_59 : decode cX6_draft 59 = .ok (.iload_n 2, 1) := by decide +kernel
theorem dX6_draft_60 : decode cX6_draft 60 = .ok (.aload_n 0, 1) := by decide +kernel
theorem dX6_draft_61 : decode cX6_draft 61 = .ok (.iload_n 1, 1) := by decide +kernel
theorem dX6_draft_62 : decode cX6_draft 62 = .ok (.iload_n 2, 1) := by decide +kernel
theorem dX6_draft_63 : decode cX6_draft 63 = .ok (.invokevirtual 57, 3) := by decide +kernel
theorem dX6_draft_66 : decode cX6_draft 66 = .ok (.invokevirtual 60, 3) := by decide +kernel
theorem dX6_draft_69 : decode cX6_draft 69 = .ok (.return_, 1) := by decide +kernel
theorem dX6_allele_0 : decode cX6_allele 0 = .ok (.iload_n 3, 1) := by decide +kernel
theorem dX6_allele_1 : decode cX6_allele 1 = .ok (.iconst 1, 1) := by decide +kernel
theorem dX6_allele_2 : decode cX6_allele 2 = .ok (.if_icmp .lt 9, 3) := by decide +kernel
theorem dX6_allele_5 : decode cX6_allele 5 = .ok (.iload_n 3, 1) := by decide +kernel
theorem dX6_allele_6 : decode cX6_allele 6 = .ok (.bipush 8, 2) := by decide +kernel
theorem dX6_allele_8 : decode cX6_allele 8 = .ok (.if_icmp .le 7, 3) := by decide +kernel
theorem dX6_allele_11 : decode cX6_allele 11 = .ok (.iconst 1, 1) := by decide +kernel
theorem dX6_allele_12 : decode cX6_allele 12 = .ok (.goto 4, 3) := by decide +kernel
theorem dX6_allele_15 : decode cX6_allele 15 = .ok (.iconst 0, 1) := by decide +kernel
theorem dX6_allele_16 : decode cX6_allele 16 = .ok (.istore 4, 2) := by decide +kernel
theorem dX6_allele_18 : decode cX6_allele 18 = .ok (.iload 4, 2) := by decide +kernel
theorem dX6_allele_20 : decode cX6_allele 20 = .ok (.ifCond .eq 7, 3) := by decide +kernel
theorem dX6_allele_23 : decode cX6_allele 23 = .ok (.iconst 0, 1) := by decide +kernel
theorem dX6_allele_24 : decode cX6_allele 24 = .ok (.goto 13, 3) := by decide +kernel
theorem dX6_allele_27 : decode cX6_allele 27 = .ok (.lload_n 1, 1) := by decide +kernel
theorem dX6_allele_28 : decode cX6_allele 28 = .ok (.lconst 1, 1) := by decide +kernel
theorem dX6_allele_29 : decode cX6_allele 29 = .ok (.iconst 2, 1) := by decide +kernel
theorem dX6_allele_30 : decode cX6_allele 30 = .ok (.iload_n 3, 1) := by decide +kernel
theorem dX6_allele_31 : decode cX6_allele 31 = .ok (.imul, 1) := by decide +kernel
theorem dX6_allele_32 : decode cX6_allele 32 = .ok (.lshl, 1) := by decide +kernel
theorem dX6_allele_33 : decode cX6_allele 33 = .ok (.lconst 1, 1) := by decide +kernel
theorem dX6_allele_34 : decode cX6_allele 34 = .ok (.lsub, 1) := by decide +kernel
theorem dX6_allele_35 : decode cX6_allele 35 = .ok (.land, 1) := by decide +kernel
theorem dX6_allele_36 : decode cX6_allele 36 = .ok (.l2i, 1) := by decide +kernel
theorem dX6_allele_37 : decode cX6_allele 37 = .ok (.istore 5, 2) := by decide +kernel
theorem dX6_allele_39 : decode cX6_allele 39 = .ok (.aload_n 0, 1) := by decide +kernel
theorem dX6_allele_40 : decode cX6_allele 40 = .ok (.iload 4, 2) := by decide +kernel
theorem dX6_allele_42 : decode cX6_allele 42 = .ok (.aload_n 0, 1) := by decide +kernel
theorem dX6_allele_43 : decode cX6_allele 43 = .ok (.getfield 40, 3) := by decide +kernel
theorem dX6_allele_46 : decode cX6_allele 46 = .ok (.ifCond .eq 26, 3) := by decide +kernel
theorem dX6_allele_49 : decode cX6_allele 49 = .ok (.aload_n 0, 1) := by decide +kernel
theorem dX6_allele_50 : decode cX6_allele 50 = .ok (.bipush 24, 2) := by decide +kernel
theorem dX6_allele_52 : decode cX6_allele 52 = .ok (.iconst 1, 1) := by decide +kernel
theorem dX6_allele_53 : decode cX6_allele 53 = .ok (.invokevirtual 33, 3) := by decide +kernel
theorem dX6_allele_56 : decode cX6_allele 56 = .ok (.iconst 4, 1) := by decide +kernel
theorem dX6_allele_57 : decode cX6_allele 57 = .ok (.if_icmp .eq 15, 3) := by decide +kernel
theorem dX6_allele_60 : decode cX6_allele 60 = .ok (.aload_n 0, 1) := by decide +kernel
theorem dX6_allele_61 : decode cX6_allele 61 = .ok (.bipush 24, 2) := by decide +kernel
theorem dX6_allele_63 : decode cX6_allele 63 = .ok (.iload_n 3, 1) := by decide +kernel
theorem dX6_allele_64 : decode cX6_allele 64 = .ok (.iload 5, 2) := by decide +kernel
theorem dX6_allele_66 : decode cX6_allele 66 = .ok (.invokevirtual 63, 3) := by decide +kernel
theorem dX6_allele_69 : decode cX6_allele 69 = .ok (.ifCond .lt 7, 3) := by decide +kernel
theorem dX6_allele_72 : decode cX6_allele 72 = .ok (.iconst 1, 1) := by decide +kernel
theorem dX6_allele_73 : decode cX6_allele 73 = .ok (.goto 4, 3) := by decide +kernel
theorem dX6_allele_76 : decode cX6_allele 76 = .ok (.iconst 0, 1) := by decide +kernel
theorem dX6_allele_77 : decode cX6_allele 77 = .ok (.invokevirtual 47, 3) := by decide +kernel
theorem dX6_allele_80 : decode cX6_allele 80 = .ok (.ifCond .eq 5, 3) := by decide +kernel
theorem dX6_allele_83 : decode cX6_allele 83 = .ok (.iconst 0, 1) := by decide +kernel
theorem dX6_allele_84 : decode cX6_allele 84 = .ok (.ireturn, 1) := by decide +kernel
theorem dX6_allele_85 : decode cX6_allele 85 = .ok (.aload_n 0, 1) := by decide +kernel
theorem dX6_allele_86 : decode cX6_allele 86 = .ok (.bipush 24, 2) := by decide +kernel
theorem dX6_allele_88 : decode cX6_allele 88 = .ok (.iload_n 3, 1) := by decide +kernel
theorem dX6_allele_89 : decode cX6_allele 89 = .ok (.iload 5, 2) := by decide +kernel
theorem dX6_allele_91 : decode cX6_allele 91 = .ok (.invokevirtual 60, 3) := by decide +kernel
theorem dX6_allele_94 : decode cX6_allele 94 = .ok (.aload_n 0, 1) := by decide +kernel
theorem dX6_allele_95 : decode cX6_allele 95 = .ok (.bipush 24, 2) := by decide +kernel
theorem dX6_allele_97 : decode cX6_allele 97 = .ok (.iconst 1, 1) := by decide +kernel
theorem dX6_allele_98 : decode cX6_allele 98 = .ok (.invokevirtual 33, 3) := by decide +kernel
theorem dX6_allele_101 : decode cX6_allele 101 = .ok (.iconst 1, 1) := by decide +kernel
theorem dX6_allele_102 : decode cX6_allele 102 = .ok (.isub, 1) := by decide +kernel
theorem dX6_allele_103 : decode cX6_allele 103 = .ok (.ireturn, 1) := by decide +kernel
theorem dX6_depth_0 : decode cX6_depth 0 = .ok (.aload_n 0, 1) := by decide +kernel
theorem dX6_depth_1 : decode cX6_depth 1 = .ok (.aload_n 0, 1) := by decide +kernel
theorem dX6_depth_2 : decode cX6_depth 2 = .ok (.getfield 40, 3) := by decide +kernel
theorem dX6_depth_5 : decode cX6_depth 5 = .ok (.ifCond .eq 37, 3) := by decide +kernel
theorem dX6_depth_8 : decode cX6_depth 8 = .ok (.iload_n 1, 1) := by decide +kernel
theorem dX6_depth_9 : decode cX6_depth 9 = .ok (.aload_n 0, 1) := by decide +kernel
theorem dX6_depth_10 : decode cX6_depth 10 = .ok (.bipush 24, 2) := by decide +kernel
theorem dX6_depth_12 : decode cX6_depth 12 = .ok (.iconst 1, 1) := by decide +kernel
theorem dX6_depth_13 : decode cX6_depth 13 = .ok (.invokevirtual 33, 3) := by decide +kernel
theorem dX6_depth_16 : decode cX6_depth 16 = .ok (.invokestatic 67, 3) := by decide +kernel
theorem dX6_depth_19 : decode cX6_depth 19 = .ok (.ifCond .ne 23, 3) := by decide +kernel
theorem dX6_depth_22 : decode cX6_depth 22 = .ok (.iload_n 2, 1) := by decide +kernel
theorem dX6_depth_23 : decode cX6_depth 23 = .ok (.sipush 10000, 3) := by decide +kernel
theorem dX6_depth_26 : decode cX6_depth 26 = .ok (.invokestatic 67, 3) := by decide +kernel
theorem dX6_depth_29 : decode cX6_depth 29 = .ok (.ifCond .ne 13, 3) := by decide +kernel
theorem dX6_depth_32 : decode cX6_depth 32 = .ok (.iload_n 3, 1) := by decide +kernel
theorem dX6_depth_33 : decode cX6_depth 33 = .ok (.sipush 8001, 3) := by decide +kernel
theorem dX6_depth_36 : decode cX6_depth 36 = .ok (.invokestatic 67, 3) := by decide +kernel
theorem dX6_depth_39 : decode cX6_depth 39 = .ok (.ifCond .eq 7, 3) := by decide +kernel
theorem dX6_depth_42 : decode cX6_depth 42 = .ok (.iconst 1, 1) := by decide +kernel
theorem dX6_depth_43 : decode cX6_depth 43 = .ok (.goto 4, 3) := by decide +kernel
theorem dX6_depth_46 : decode cX6_depth 46 = .ok (.iconst 0, 1) := by decide +kernel
theorem dX6_depth_47 : decode cX6_depth 47 = .ok (.iconst 0, 1) := by decide +kernel
theorem dX6_depth_48 : decode cX6_depth 48 = .ok (.invokevirtual 47, 3) := by decide +kernel
theorem dX6_depth_51 : decode cX6_depth 51 = .ok (.ifCond .eq 4, 3) := by decide +kernel
theorem dX6_depth_54 : decode cX6_depth 54 = .ok (.return_, 1) := by decide +kernel
theorem dX6_depth_55 : decode cX6_depth 55 = .ok (.aload_n 0, 1) := by decide +kernel
theorem dX6_depth_56 : decode cX6_depth 56 = .ok (.bipush 24, 2) := by decide +kernel
theorem dX6_depth_58 : decode cX6_depth 58 = .ok (.bipush 11, 2) := by decide +kernel
theorem dX6_depth_60 : decode cX6_depth 60 = .ok (.iload_n 1, 1) := by decide +kernel
theorem dX6_depth_61 : decode cX6_depth 61 = .ok (.iadd, 1) := by decide +kernel
theorem dX6_depth_62 : decode cX6_depth 62 = .ok (.iload_n 2, 1) := by decide +kernel
theorem dX6_depth_63 : decode cX6_depth 63 = .ok (.invokevirtual 29, 3) := by decide +kernel
theorem dX6_depth_66 : decode cX6_depth 66 = .ok (.aload_n 0, 1) := by decide +kernel
theorem dX6_depth_67 : decode cX6_depth 67 = .ok (.bipush 24, 2) := by decide +kernel
theorem dX6_depth_69 : decode cX6_depth 69 = .ok (.bipush 10, 2) := by decide +kernel
theorem dX6_depth_71 : decode cX6_depth 71 = .ok (.iload_n 3, 1) := by decide +kernel
theorem dX6_depth_72 : decode cX6_depth 72 = .ok (.invokevirtual 29, 3) := by decide +kernel
theorem dX6_depth_75 : decode cX6_depth 75 = .ok (.return_, 1) := by decide +kernel
theorem dX6_genotype_0 : decode cX6_genotype 0 = .ok (.aload_n 0, 1) := by decide +kernel
theorem dX6_genotype_1 : decode cX6_genotype 1 = .ok (.bipush 24, 2) := by decide +kernel
theorem dX6_genotype_3 : decode cX6_genotype 3 = .ok (.iconst 1, 1) := by decide +kernel
theorem dX6_genotype_4 : decode cX6_genotype 4 = .ok (.invokevirtual 33, 3) := by decide +kernel
theorem dX6_genotype_7 : decode cX6_genotype 7 = .ok (.istore 5, 2) := by decide +kernel
theorem dX6_genotype_9 : decode cX6_genotype 9 = .ok (.aload_n 0, 1) := by decide +kernel
theorem dX6_genotype_10 : decode cX6_genotype 10 = .ok (.aload_n 0, 1) := by decide +kernel
theorem dX6_genotype_11 : decode cX6_genotype 11 = .ok (.getfield 40, 3) := by decide +kernel
theorem dX6_genotype_14 : decode cX6_genotype 14 = .ok (.ifCond .eq 37, 3) := by decide +kernel
theorem dX6_genotype_17 : decode cX6_genotype 17 = .ok (.iload_n 1, 1) := by decide +kernel
theorem dX6_genotype_18 : decode cX6_genotype 18 = .ok (.iconst 2, 1) := by decide +kernel
theorem dX6_genotype_19 : decode cX6_genotype 19 = .ok (.invokestatic 67, 3) := by decide +kernel
theorem dX6_genotype_22 : decode cX6_genotype 22 = .ok (.ifCond .ne 29, 3) := by decide +kernel
theorem dX6_genotype_25 : decode cX6_genotype 25 = .ok (.iload_n 2, 1) := by decide +kernel
theorem dX6_genotype_26 : decode cX6_genotype 26 = .ok (.iconst 1, 1) := by decide +kernel
theorem dX6_genotype_27 : decode cX6_genotype 27 = .ok (.iadd, 1) := by decide +kernel
theorem dX6_genotype_28 : decode cX6_genotype 28 = .ok (.iload 5, 2) := by decide +kernel
theorem dX6_genotype_30 : decode cX6_genotype 30 = .ok (.iconst 1, 1) := by decide +kernel
theorem dX6_genotype_31 : decode cX6_genotype 31 = .ok (.iadd, 1) := by decide +kernel
theorem dX6_genotype_32 : decode cX6_genotype 32 = .ok (.invokestatic 67, 3) := by decide +kernel
theorem dX6_genotype_35 : decode cX6_genotype 35 = .ok (.ifCond .ne 16, 3) := by decide +kernel
theorem dX6_genotype_38 : decode cX6_genotype 38 = .ok (.iload_n 3, 1) := by decide +kernel
theorem dX6_genotype_39 : decode cX6_genotype 39 = .ok (.iconst 1, 1) := by decide +kernel
theorem dX6_genotype_40 : decode cX6_genotype 40 = .ok (.iadd, 1) := by decide +kernel
theorem dX6_genotype_41 : decode cX6_genotype 41 = .ok (.iload 5, 2) := by decide +kernel
theorem dX6_genotype_43 : decode cX6_genotype 43 = .ok (.iconst 1, 1) := by decide +kernel
theorem dX6_genotype_44 : decode cX6_genotype 44 = .ok (.iadd, 1) := by decide +kernel
theorem dX6_genotype_45 : decode cX6_genotype 45 = .ok (.invokestatic 67, 3) := by decide +kernel
theorem dX6_genotype_48 : decode cX6_genotype 48 = .ok (.ifCond .eq 7, 3) := by decide +kernel
theorem dX6_genotype_51 : decode cX6_genotype 51 = .ok (.iconst 1, 1) := by decide +kernel
theorem dX6_genotype_52 : decode cX6_genotype 52 = .ok (.goto 4, 3) := by decide +kernel
theorem dX6_genotype_55 : decode cX6_genotype 55 = .ok (.iconst 0, 1) := by decide +kernel
theorem dX6_genotype_56 : decode cX6_genotype 56 = .ok (.iconst 0, 1) := by decide +kernel
theorem dX6_genotype_57 : decode cX6_genotype 57 = .ok (.invokevirtual 47, 3) := by decide +kernel
theorem dX6_genotype_60 : decode cX6_genotype 60 = .ok (.ifCond .eq 4, 3) := by decide +kernel
theorem dX6_genotype_63 : decode cX6_genotype 63 = .ok (.return_, 1) := by decide +kernel
theorem dX6_genotype_64 : decode cX6_genotype 64 = .ok (.aload_n 0, 1) := by decide +kernel
theorem dX6_genotype_65 : decode cX6_genotype 65 = .ok (.bipush 24, 2) := by decide +kernel
theorem dX6_genotype_67 : decode cX6_genotype 67 = .ok (.bipush 15, 2) := by decide +kernel
theorem dX6_genotype_69 : decode cX6_genotype 69 = .ok (.iconst 3, 1) := by decide +kernel
theorem dX6_genotype_70 : decode cX6_genotype 70 = .ok (.iload_n 1, 1) := by decide +kernel
theorem dX6_genotype_71 : decode cX6_genotype 71 = .ok (.imul, 1) := by decide +kernel
theorem dX6_genotype_72 : decode cX6_genotype 72 = .ok (.iadd, 1) := by decide +kernel
theorem dX6_genotype_73 : decode cX6_genotype 73 = .ok (.iload_n 2, 1) := by decide +kernel
theorem dX6_genotype_74 : decode cX6_genotype 74 = .ok (.invokevirtual 29, 3) := by decide +kernel
theorem dX6_genotype_77 : decode cX6_genotype 77 = .ok (.aload_n 0, 1) := by decide +kernel
theorem dX6_genotype_78 : decode cX6_genotype 78 = .ok (.bipush 24, 2) := by decide +kernel
theorem dX6_genotype_80 : decode cX6_genotype 80 = .ok (.bipush 15, 2) := by decide +kernel
theorem dX6_genotype_82 : decode cX6_genotype 82 = .ok (.iconst 3, 1) := by decide +kernel
theorem dX6_genotype_83 : decode cX6_genotype 83 = .ok (.iload_n 1, 1) := by decide +kernel
theorem dX6_genotype_84 : decode cX6_genotype 84 = .ok (.imul, 1) := by decide +kernel
theorem dX6_genotype_85 : decode cX6_genotype 85 = .ok (.iadd, 1) := by decide +kernel
theorem dX6_genotype_86 : decode cX6_genotype 86 = .ok (.iconst 1, 1) := by decide +kernel
theorem dX6_genotype_87 : decode cX6_genotype 87 = .ok (.iadd, 1) := by decide +kernel
theorem dX6_genotype_88 : decode cX6_genotype 88 = .ok (.iload_n 3, 1) := by decide +kernel
theorem dX6_genotype_89 : decode cX6_genotype 89 = .ok (.invokevirtual 29, 3) := by decide +kernel
theorem dX6_genotype_92 : decode cX6_genotype 92 = .ok (.aload_n 0, 1) := by decide +kernel
theorem dX6_genotype_93 : decode cX6_genotype 93 = .ok (.bipush 24, 2) := by decide +kernel
theorem dX6_genotype_95 : decode cX6_genotype 95 = .ok (.bipush 15, 2) := by decide +kernel
theorem dX6_genotype_97 : decode cX6_genotype 97 = .ok (.iconst 3, 1) := by decide +kernel
theorem dX6_genotype_98 : decode cX6_genotype 98 = .ok (.iload_n 1, 1) := by decide +kernel
theorem dX6_genotype_99 : decode cX6_genotype 99 = .ok (.imul, 1) := by decide +kernel
theorem dX6_genotype_100 : decode cX6_genotype 100 = .ok (.iadd, 1) := by decide +kernel
theorem dX6_genotype_101 : decode cX6_genotype 101 = .ok (.iconst 2, 1) := by decide +kernel
theorem dX6_genotype_102 : decode cX6_genotype 102 = .ok (.iadd, 1) := by decide +kernel
theorem dX6_genotype_103 : decode cX6_genotype 103 = .ok (.iload 4, 2) := by decide +kernel
theorem dX6_genotype_105 : decode cX6_genotype 105 = .ok (.ifCond .eq 7, 3) := by decide +kernel
theorem dX6_genotype_108 : decode cX6_genotype 108 = .ok (.iconst 1, 1) := by decide +kernel
theorem dX6_genotype_109 : decode cX6_genotype 109 = .ok (.goto 4, 3) := by decide +kernel
theorem dX6_genotype_112 : decode cX6_genotype 112 = .ok (.iconst 0, 1) := by decide +kernel
theorem dX6_genotype_113 : decode cX6_genotype 113 = .ok (.invokevirtual 29, 3) := by decide +kernel
theorem dX6_genotype_116 : decode cX6_genotype 116 = .ok (.return_, 1) := by decide +kernel
theorem dX6_likelihood_0 : decode cX6_likelihood 0 = .ok (.aload_n 0, 1) := by decide +kernel
theorem dX6_likelihood_1 : decode cX6_likelihood 1 = .ok (.aload_n 0, 1) := by decide +kernel
theorem dX6_likelihood_2 : decode cX6_likelihood 2 = .ok (.getfield 40, 3) := by decide +kernel
theorem dX6_likelihood_5 : decode cX6_likelihood 5 = .ok (.ifCond .eq 38, 3) := by decide +kernel
theorem dX6_likelihood_8 : decode cX6_likelihood 8 = .ok (.iload_n 1, 1) := by decide +kernel
theorem dX6_likelihood_9 : decode cX6_likelihood 9 = .ok (.iconst 2, 1) := by decide +kernel
theorem dX6_likelihood_10 : decode cX6_likelihood 10 = .ok (.invokestatic 67, 3) := by decide +kernel
theorem dX6_likelihood_13 : decode cX6_likelihood 13 = .ok (.ifCond .ne 30, 3) := by decide +kernel
theorem dX6_likelihood_16 : decode cX6_likelihood 16 = .ok (.iload_n 2, 1) := by decide +kernel
theorem dX6_likelihood_17 : decode cX6_likelihood 17 = .ok (.aload_n 0, 1) := by decide +kernel
theorem dX6_likelihood_18 : decode cX6_likelihood 18 = .ok (.bipush 24, 2) := by decide +kernel
theorem dX6_likelihood_20 : decode cX6_likelihood 20 = .ok (.iconst 1, 1) := by decide +kernel
theorem dX6_likelihood_21 : decode cX6_likelihood 21 = .ok (.invokevirtual 33, 3) := by decide +kernel
theorem dX6_likelihood_24 : decode cX6_likelihood 24 = .ok (.invokestatic 70, 3) := by decide +kernel
theorem dX6_likelihood_27 : decode cX6_likelihood 27 = .ok (.invokestatic 67, 3) := by decide +kernel
theorem dX6_likelihood_30 : decode cX6_likelihood 30 = .ok (.ifCond .ne 13, 3) := by decide +kernel
theorem dX6_likelihood_33 : decode cX6_likelihood 33 = .ok (.iload_n 3, 1) := by decide +kernel
theorem dX6_likelihood_34 : decode cX6_likelihood 34 = .ok (.sipush 1000, 3) := by decide +kernel
theorem dX6_likelihood_37 : decode cX6_likelihood 37 = .ok (.invokestatic 67, 3) := by decide +kernel
theorem dX6_likelihood_40 : decode cX6_likelihood 40 = .ok (.ifCond .eq 7, 3) := by decide +kernel
theorem dX6_likelihood_43 : decode cX6_likelihood 43 = .ok (.iconst 1, 1) := by decide +kernel
theorem dX6_likelihood_44 : decode cX6_likelihood 44 = .ok (.goto 4, 3) := by decide +kernel
theorem dX6_likelihood_47 : decode cX6_likelihood 47 = .ok (.iconst 0, 1) := by decide +kernel
theorem dX6_likelihood_48 : decode cX6_likelihood 48 = .ok (.iconst 0, 1) := by decide +kernel
theorem dX6_likelihood_49 : decode cX6_likelihood 49 = .ok (.invokevirtual 47, 3) := by decide +kernel
theorem dX6_likelihood_52 : decode cX6_likelihood 52 = .ok (.ifCond .eq 4, 3) := by decide +kernel
theorem dX6_likelihood_55 : decode cX6_likelihood 55 = .ok (.return_, 1) := by decide +kernel
theorem dX6_likelihood_56 : decode cX6_likelihood 56 = .ok (.aload_n 0, 1) := by decide +kernel
theorem dX6_likelihood_57 : decode cX6_likelihood 57 = .ok (.bipush 24, 2) := by decide +kernel
theorem dX6_likelihood_59 : decode cX6_likelihood 59 = .ok (.bipush 21, 2) := by decide +kernel
theorem dX6_likelihood_61 : decode cX6_likelihood 61 = .ok (.bipush 10, 2) := by decide +kernel
theorem dX6_likelihood_63 : decode cX6_likelihood 63 = .ok (.iload_n 1, 1) := by decide +kernel
theorem dX6_likelihood_64 : decode cX6_likelihood 64 = .ok (.imul, 1) := by decide +kernel
theorem dX6_likelihood_65 : decode cX6_likelihood 65 = .ok (.iadd, 1) := by decide +kernel
theorem dX6_likelihood_66 : decode cX6_likelihood 66 = .ok (.iload_n 2, 1) := by decide +kernel
theorem dX6_likelihood_67 : decode cX6_likelihood 67 = .ok (.iadd, 1) := by decide +kernel
theorem dX6_likelihood_68 : decode cX6_likelihood 68 = .ok (.iload_n 3, 1) := by decide +kernel
theorem dX6_likelihood_69 : decode cX6_likelihood 69 = .ok (.invokevirtual 29, 3) := by decide +kernel
theorem dX6_likelihood_72 : decode cX6_likelihood 72 = .ok (.return_, 1) := by decide +kernel
theorem dX6_add_0 : decode cX6_add 0 = .ok (.aload_n 0, 1) := by decide +kernel
theorem dX6_add_1 : decode cX6_add 1 = .ok (.aload_n 0, 1) := by decide +kernel
theorem dX6_add_2 : decode cX6_add 2 = .ok (.getfield 40, 3) := by decide +kernel
theorem dX6_add_5 : decode cX6_add 5 = .ok (.ifCond .eq 23, 3) := by decide +kernel
theorem dX6_add_8 : decode cX6_add 8 = .ok (.aload_n 0, 1) := by decide +kernel
theorem dX6_add_9 : decode cX6_add 9 = .ok (.bipush 24, 2) := by decide +kernel
theorem dX6_add_11 : decode cX6_add 11 = .ok (.iconst 1, 1) := by decide +kernel
theorem dX6_add_12 : decode cX6_add 12 = .ok (.invokevirtual 33, 3) := by decide +kernel
theorem dX6_add_15 : decode cX6_add 15 = .ok (.iconst 2, 1) := by decide +kernel
theorem dX6_add_16 : decode cX6_add 16 = .ok (.if_icmp .lt 12, 3) := by decide +kernel
theorem dX6_add_19 : decode cX6_add 19 = .ok (.aload_n 0, 1) := by decide +kernel
theorem dX6_add_20 : decode cX6_add 20 = .ok (.getfield 44, 3) := by decide +kernel
theorem dX6_add_23 : decode cX6_add 23 = .ok (.bipush 24, 2) := by decide +kernel
theorem dX6_add_25 : decode cX6_add 25 = .ok (.if_icmp .ne 7, 3) := by decide +kernel
theorem dX6_add_28 : decode cX6_add 28 = .ok (.iconst 1, 1) := by decide +kernel
theorem dX6_add_29 : decode cX6_add 29 = .ok (.goto 4, 3) := by decide +kernel
theorem dX6_add_32 : decode cX6_add 32 = .ok (.iconst 0, 1) := by decide +kernel
theorem dX6_add_33 : decode cX6_add 33 = .ok (.iconst 0, 1) := by decide +kernel
theorem dX6_add_34 : decode cX6_add 34 = .ok (.invokevirtual 47, 3) := by decide +kernel
theorem dX6_add_37 : decode cX6_add 37 = .ok (.ifCond .eq 5, 3) := by decide +kernel
theorem dX6_add_40 : decode cX6_add 40 = .ok (.iconst 0, 1) := by decide +kernel
theorem dX6_add_41 : decode cX6_add 41 = .ok (.ireturn, 1) := by decide +kernel
theorem dX6_add_42 : decode cX6_add 42 = .ok (.aload_n 0, 1) := by decide +kernel
theorem dX6_add_43 : decode cX6_add 43 = .ok (.iconst 0, 1) := by decide +kernel
theorem dX6_add_44 : decode cX6_add 44 = .ok (.putfield 40, 3) := by decide +kernel
theorem dX6_add_47 : decode cX6_add 47 = .ok (.aload_n 0, 1) := by decide +kernel
theorem dX6_add_48 : decode cX6_add 48 = .ok (.bipush 24, 2) := by decide +kernel
theorem dX6_add_50 : decode cX6_add 50 = .ok (.invokevirtual 74, 3) := by decide +kernel
theorem dX6_add_53 : decode cX6_add 53 = .ok (.ireturn, 1) := by decide +kernel
theorem dX6_enter_0 : decode cX6_enter 0 = .ok (.iconst 0, 1) := by decide +kernel
theorem dX6_enter_1 : decode cX6_enter 1 = .ok (.istore_n 2, 1) := by decide +kernel
theorem dX6_enter_2 : decode cX6_enter 2 = .ok (.iload_n 2, 1) := by decide +kernel
theorem dX6_enter_3 : decode cX6_enter 3 = .ok (.aload_n 0, 1) := by decide +kernel
theorem dX6_enter_4 : decode cX6_enter 4 = .ok (.getfield 44, 3) := by decide +kernel
theorem dX6_enter_7 : decode cX6_enter 7 = .ok (.if_icmp .ge 24, 3) := by decide +kernel
theorem dX6_enter_10 : decode cX6_enter 10 = .ok (.aload_n 0, 1) := by decide +kernel
theorem dX6_enter_11 : decode cX6_enter 11 = .ok (.iload_n 2, 1) := by decide +kernel
theorem dX6_enter_12 : decode cX6_enter 12 = .ok (.iconst 0, 1) := by decide +kernel
theorem dX6_enter_13 : decode cX6_enter 13 = .ok (.invokevirtual 33, 3) := by decide +kernel
theorem dX6_enter_16 : decode cX6_enter 16 = .ok (.aload_n 0, 1) := by decide +kernel
theorem dX6_enter_17 : decode cX6_enter 17 = .ok (.iload_n 1, 1) := by decide +kernel
theorem dX6_enter_18 : decode cX6_enter 18 = .ok (.iconst 0, 1) := by decide +kernel
theorem dX6_enter_19 : decode cX6_enter 19 = .ok (.invokevirtual 33, 3) := by decide +kernel
theorem dX6_enter_22 : decode cX6_enter 22 = .ok (.if_icmp .gt 9, 3) := by decide +kernel
theorem dX6_enter_25 : decode cX6_enter 25 = .ok (.iinc 2 1, 3) := by decide +kernel
theorem dX6_enter_28 : decode cX6_enter 28 = .ok (.goto (-26), 3) := by decide +kernel
theorem dX6_enter_31 : decode cX6_enter 31 = .ok (.aload_n 0, 1) := by decide +kernel
theorem dX6_enter_32 : decode cX6_enter 32 = .ok (.iload_n 2, 1) := by decide +kernel
theorem dX6_enter_33 : decode cX6_enter 33 = .ok (.invokevirtual 77, 3) := by decide +kernel
theorem dX6_enter_36 : decode cX6_enter 36 = .ok (.aload_n 0, 1) := by decide +kernel
theorem dX6_enter_37 : decode cX6_enter 37 = .ok (.iload_n 1, 1) := by decide +kernel
theorem dX6_enter_38 : decode cX6_enter 38 = .ok (.iload_n 2, 1) := by decide +kernel
theorem dX6_enter_39 : decode cX6_enter 39 = .ok (.invokevirtual 81, 3) := by decide +kernel
theorem dX6_enter_42 : decode cX6_enter 42 = .ok (.iload_n 2, 1) := by decide +kernel
theorem dX6_enter_43 : decode cX6_enter 43 = .ok (.ireturn, 1) := by decide +kernel
theorem dX6_open_0 : decode cX6_open 0 = .ok (.aload_n 0, 1) := by decide +kernel
theorem dX6_open_1 : decode cX6_open 1 = .ok (.getfield 44, 3) := by decide +kernel
theorem dX6_open_4 : decode cX6_open 4 = .ok (.istore_n 2, 1) := by decide +kernel
theorem dX6_open_5 : decode cX6_open 5 = .ok (.iload_n 2, 1) := by decide +kernel
theorem dX6_open_6 : decode cX6_open 6 = .ok (.iload_n 1, 1) := by decide +kernel
theorem dX6_open_7 : decode cX6_open 7 = .ok (.if_icmp .le 17, 3) := by decide +kernel
theorem dX6_open_10 : decode cX6_open 10 = .ok (.aload_n 0, 1) := by decide +kernel
theorem dX6_open_11 : decode cX6_open 11 = .ok (.iload_n 2, 1) := by decide +kernel
theorem dX6_open_12 : decode cX6_open 12 = .ok (.iconst 1, 1) := by decide +kernel
theorem dX6_open_13 : decode cX6_open 13 = .ok (.isub, 1) := by decide +kernel
theorem dX6_open_14 : decode cX6_open 14 = .ok (.iload_n 2, 1) := by decide +kernel
theorem dX6_open_15 : decode cX6_open 15 = .ok (.invokevirtual 81, 3) := by decide +kernel
theorem dX6_open_18 : decode cX6_open 18 = .ok (.iinc 2 (-1), 3) := by decide +kernel
theorem dX6_open_21 : decode cX6_open 21 = .ok (.goto (-16), 3) := by decide +kernel
theorem dX6_open_24 : decode cX6_open 24 = .ok (.aload_n 0, 1) := by decide +kernel
theorem dX6_open_25 : decode cX6_open 25 = .ok (.dup, 1) := by decide +kernel
theorem dX6_open_26 : decode cX6_open 26 = .ok (.getfield 44, 3) := by decide +kernel
theorem dX6_open_29 : decode cX6_open 29 = .ok (.iconst 1, 1) := by decide +kernel
theorem dX6_open_30 : decode cX6_open 30 = .ok (.iadd, 1) := by decide +kernel
theorem dX6_open_31 : decode cX6_open 31 = .ok (.putfield 44, 3) := by decide +kernel
theorem dX6_open_34 : decode cX6_open 34 = .ok (.return_, 1) := by decide +kernel
theorem dX6_close_0 : decode cX6_close 0 = .ok (.aload_n 0, 1) := by decide +kernel
theorem dX6_close_1 : decode cX6_close 1 = .ok (.dup, 1) := by decide +kernel
theorem dX6_close_2 : decode cX6_close 2 = .ok (.getfield 44, 3) := by decide +kernel
theorem dX6_close_5 : decode cX6_close 5 = .ok (.iconst 1, 1) := by decide +kernel
theorem dX6_close_6 : decode cX6_close 6 = .ok (.isub, 1) := by decide +kernel
theorem dX6_close_7 : decode cX6_close 7 = .ok (.putfield 44, 3) := by decide +kernel
theorem dX6_close_10 : decode cX6_close 10 = .ok (.iload_n 1, 1) := by decide +kernel
theorem dX6_close_11 : decode cX6_close 11 = .ok (.istore_n 2, 1) := by decide +kernel
theorem dX6_close_12 : decode cX6_close 12 = .ok (.iload_n 2, 1) := by decide +kernel
theorem dX6_close_13 : decode cX6_close 13 = .ok (.aload_n 0, 1) := by decide +kernel
theorem dX6_close_14 : decode cX6_close 14 = .ok (.getfield 44, 3) := by decide +kernel
theorem dX6_close_17 : decode cX6_close 17 = .ok (.if_icmp .ge 17, 3) := by decide +kernel
theorem dX6_close_20 : decode cX6_close 20 = .ok (.aload_n 0, 1) := by decide +kernel
theorem dX6_close_21 : decode cX6_close 21 = .ok (.iload_n 2, 1) := by decide +kernel
theorem dX6_close_22 : decode cX6_close 22 = .ok (.iconst 1, 1) := by decide +kernel
theorem dX6_close_23 : decode cX6_close 23 = .ok (.iadd, 1) := by decide +kernel
theorem dX6_close_24 : decode cX6_close 24 = .ok (.iload_n 2, 1) := by decide +kernel
theorem dX6_close_25 : decode cX6_close 25 = .ok (.invokevirtual 81, 3) := by decide +kernel
theorem dX6_close_28 : decode cX6_close 28 = .ok (.iinc 2 1, 3) := by decide +kernel
theorem dX6_close_31 : decode cX6_close 31 = .ok (.goto (-19), 3) := by decide +kernel
theorem dX6_close_34 : decode cX6_close 34 = .ok (.return_, 1) := by decide +kernel
theorem dX6_remove_0 : decode cX6_remove 0 = .ok (.aload_n 0, 1) := by decide +kernel
theorem dX6_remove_1 : decode cX6_remove 1 = .ok (.iload_n 1, 1) := by decide +kernel
theorem dX6_remove_2 : decode cX6_remove 2 = .ok (.aload_n 0, 1) := by decide +kernel
theorem dX6_remove_3 : decode cX6_remove 3 = .ok (.getfield 44, 3) := by decide +kernel
theorem dX6_remove_6 : decode cX6_remove 6 = .ok (.invokestatic 67, 3) := by decide +kernel
theorem dX6_remove_9 : decode cX6_remove 9 = .ok (.iconst 0, 1) := by decide +kernel
theorem dX6_remove_10 : decode cX6_remove 10 = .ok (.invokevirtual 47, 3) := by decide +kernel
theorem dX6_remove_13 : decode cX6_remove 13 = .ok (.ifCond .ne 8, 3) := by decide +kernel
theorem dX6_remove_16 : decode cX6_remove 16 = .ok (.aload_n 0, 1) := by decide +kernel
theorem dX6_remove_17 : decode cX6_remove 17 = .ok (.iload_n 1, 1) := by decide +kernel
theorem dX6_remove_18 : decode cX6_remove 18 = .ok (.invokevirtual 84, 3) := by decide +kernel
theorem dX6_remove_21 : decode cX6_remove 21 = .ok (.return_, 1) := by decide +kernel
theorem dX6_shortest_0 : decode cX6_shortest 0 = .ok (.bipush 9, 2) := by decide +kernel
theorem dX6_shortest_2 : decode cX6_shortest 2 = .ok (.istore_n 2, 1) := by decide +kernel
theorem dX6_shortest_3 : decode cX6_shortest 3 = .ok (.iconst 0, 1) := by decide +kernel
theorem dX6_shortest_4 : decode cX6_shortest 4 = .ok (.istore_n 3, 1) := by decide +kernel
theorem dX6_shortest_5 : decode cX6_shortest 5 = .ok (.iload_n 3, 1) := by decide +kernel
theorem dX6_shortest_6 : decode cX6_shortest 6 = .ok (.aload_n 0, 1) := by decide +kernel
theorem dX6_shortest_7 : decode cX6_shortest 7 = .ok (.iload_n 1, 1) := by decide +kernel
theorem dX6_shortest_8 : decode cX6_shortest 8 = .ok (.iconst 1, 1) := by decide +kernel
theorem dX6_shortest_9 : decode cX6_shortest 9 = .ok (.invokevirtual 33, 3) := by decide +kernel
theorem dX6_shortest_12 : decode cX6_shortest 12 = .ok (.if_icmp .ge 34, 3) := by decide +kernel
theorem dX6_shortest_15 : decode cX6_shortest 15 = .ok (.aload_n 0, 1) := by decide +kernel
theorem dX6_shortest_16 : decode cX6_shortest 16 = .ok (.iload_n 1, 1) := by decide +kernel
theorem dX6_shortest_17 : decode cX6_shortest 17 = .ok (.iconst 2, 1) := by decide +kernel
theorem dX6_shortest_18 : decode cX6_shortest 18 = .ok (.iload_n 3, 1) := by decide +kernel
theorem dX6_shortest_19 : decode cX6_shortest 19 = .ok (.iadd, 1) := by decide +kernel
theorem dX6_shortest_20 : decode cX6_shortest 20 = .ok (.invokevirtual 33, 3) := by decide +kernel
theorem dX6_shortest_23 : decode cX6_shortest 23 = .ok (.iload_n 2, 1) := by decide +kernel
theorem dX6_shortest_24 : decode cX6_shortest 24 = .ok (.if_icmp .ge 14, 3) := by decide +kernel
theorem dX6_shortest_27 : decode cX6_shortest 27 = .ok (.aload_n 0, 1) := by decide +kernel
theorem dX6_shortest_28 : decode cX6_shortest 28 = .ok (.iload_n 1, 1) := by decide +kernel
theorem dX6_shortest_29 : decode cX6_shortest 29 = .ok (.iconst 2, 1) := by decide +kernel
theorem dX6_shortest_30 : decode cX6_shortest 30 = .ok (.iload_n 3, 1) := by decide +kernel
theorem dX6_shortest_31 : decode cX6_shortest 31 = .ok (.iadd, 1) := by decide +kernel
theorem dX6_shortest_32 : decode cX6_shortest 32 = .ok (.invokevirtual 33, 3) := by decide +kernel
theorem dX6_shortest_35 : decode cX6_shortest 35 = .ok (.goto 4, 3) := by decide +kernel
theorem dX6_shortest_38 : decode cX6_shortest 38 = .ok (.iload_n 2, 1) := by decide +kernel
theorem dX6_shortest_39 : decode cX6_shortest 39 = .ok (.istore_n 2, 1) := by decide +kernel
theorem dX6_shortest_40 : decode cX6_shortest 40 = .ok (.iinc 3 1, 3) := by decide +kernel
theorem dX6_shortest_43 : decode cX6_shortest 43 = .ok (.goto (-38), 3) := by decide +kernel
theorem dX6_shortest_46 : decode cX6_shortest 46 = .ok (.iload_n 2, 1) := by decide +kernel
theorem dX6_shortest_47 : decode cX6_shortest 47 = .ok (.ireturn, 1) := by decide +kernel
theorem dX6_same_0 : decode cX6_same 0 = .ok (.iconst 1, 1) := by decide +kernel
theorem dX6_same_1 : decode cX6_same 1 = .ok (.istore_n 3, 1) := by decide +kernel
theorem dX6_same_2 : decode cX6_same 2 = .ok (.iconst 1, 1) := by decide +kernel
theorem dX6_same_3 : decode cX6_same 3 = .ok (.istore 4, 2) := by decide +kernel
theorem dX6_same_5 : decode cX6_same 5 = .ok (.iload 4, 2) := by decide +kernel
theorem dX6_same_7 : decode cX6_same 7 = .ok (.aload_n 0, 1) := by decide +kernel
theorem dX6_same_8 : decode cX6_same 8 = .ok (.iload_n 1, 1) := by decide +kernel
theorem dX6_same_9 : decode cX6_same 9 = .ok (.iconst 1, 1) := by decide +kernel
theorem dX6_same_10 : decode cX6_same 10 = .ok (.invokevirtual 33, 3) := by decide +kernel
theorem dX6_same_13 : decode cX6_same 13 = .ok (.if_icmp .ge 37, 3) := by decide +kernel
theorem dX6_same_16 : decode cX6_same 16 = .ok (.iload_n 3, 1) := by decide +kernel
theorem dX6_same_17 : decode cX6_same 17 = .ok (.ifCond .eq 25, 3) := by decide +kernel
theorem dX6_same_20 : decode cX6_same 20 = .ok (.aload_n 0, 1) := by decide +kernel
theorem dX6_same_21 : decode cX6_same 21 = .ok (.iload_n 1, 1) := by decide +kernel
theorem dX6_same_22 : decode cX6_same 22 = .ok (.iload 4, 2) := by decide +kernel
theorem dX6_same_24 : decode cX6_same 24 = .ok (.iload_n 2, 1) := by decide +kernel
theorem dX6_same_25 : decode cX6_same 25 = .ok (.invokevirtual 87, 3) := by decide +kernel
theorem dX6_same_28 : decode cX6_same 28 = .ok (.aload_n 0, 1) := by decide +kernel
theorem dX6_same_29 : decode cX6_same 29 = .ok (.iload_n 1, 1) := by decide +kernel
theorem dX6_same_30 : decode cX6_same 30 = .ok (.iconst 0, 1) := by decide +kernel
theorem dX6_same_31 : decode cX6_same 31 = .ok (.iload_n 2, 1) := by decide +kernel
theorem dX6_same_32 : decode cX6_same 32 = .ok (.invokevirtual 87, 3) := by decide +kernel
theorem dX6_same_35 : decode cX6_same 35 = .ok (.if_icmp .ne 7, 3) := by decide +kernel
theorem dX6_same_38 : decode cX6_same 38 = .ok (.iconst 1, 1) := by decide +kernel
theorem dX6_same_39 : decode cX6_same 39 = .ok (.goto 4, 3) := by decide +kernel
theorem dX6_same_42 : decode cX6_same 42 = .ok (.iconst 0, 1) := by decide +kernel
theorem dX6_same_43 : decode cX6_same 43 = .ok (.istore_n 3, 1) := by decide +kernel
theorem dX6_same_44 : decode cX6_same 44 = .ok (.iinc 4 1, 3) := by decide +kernel
theorem dX6_same_47 : decode cX6_same 47 = .ok (.goto (-42), 3) := by decide +kernel
theorem dX6_same_50 : decode cX6_same 50 = .ok (.iload_n 3, 1) := by decide +kernel
theorem dX6_same_51 : decode cX6_same 51 = .ok (.ireturn, 1) := by decide +kernel
theorem dX6_edge_0 : decode cX6_edge 0 = .ok (.aload_n 0, 1) := by decide +kernel
theorem dX6_edge_1 : decode cX6_edge 1 = .ok (.iload_n 1, 1) := by decide +kernel
theorem dX6_edge_2 : decode cX6_edge 2 = .ok (.bipush 6, 2) := by decide +kernel
theorem dX6_edge_4 : decode cX6_edge 4 = .ok (.iload_n 2, 1) := by decide +kernel
theorem dX6_edge_5 : decode cX6_edge 5 = .ok (.iadd, 1) := by decide +kernel
theorem dX6_edge_6 : decode cX6_edge 6 = .ok (.invokevirtual 33, 3) := by decide +kernel
theorem dX6_edge_9 : decode cX6_edge 9 = .ok (.istore 4, 2) := by decide +kernel
theorem dX6_edge_11 : decode cX6_edge 11 = .ok (.iload_n 3, 1) := by decide +kernel
theorem dX6_edge_12 : decode cX6_edge 12 = .ok (.ifCond .eq 23, 3) := by decide +kernel
theorem dX6_edge_15 : decode cX6_edge 15 = .ok (.iload 4, 2) := by decide +kernel
theorem dX6_edge_17 : decode cX6_edge 17 = .ok (.iconst 2, 1) := by decide +kernel
theorem dX6_edge_18 : decode cX6_edge 18 = .ok (.aload_n 0, 1) := by decide +kernel
theorem dX6_edge_19 : decode cX6_edge 19 = .ok (.iload_n 1, 1) := by decide +kernel
theorem dX6_edge_20 : decode cX6_edge 20 = .ok (.iconst 2, 1) := by decide +kernel
theorem dX6_edge_21 : decode cX6_edge 21 = .ok (.iload_n 2, 1) := by decide +kernel
theorem dX6_edge_22 : decode cX6_edge 22 = .ok (.iadd, 1) := by decide +kernel
theorem dX6_edge_23 : decode cX6_edge 23 = .ok (.invokevirtual 33, 3) := by decide +kernel
theorem dX6_edge_26 : decode cX6_edge 26 = .ok (.imul, 1) := by decide +kernel
theorem dX6_edge_27 : decode cX6_edge 27 = .ok (.iconst 2, 1) := by decide +kernel
theorem dX6_edge_28 : decode cX6_edge 28 = .ok (.isub, 1) := by decide +kernel
theorem dX6_edge_29 : decode cX6_edge 29 = .ok (.ishr, 1) := by decide +kernel
theorem dX6_edge_30 : decode cX6_edge 30 = .ok (.iconst 3, 1) := by decide +kernel
theorem dX6_edge_31 : decode cX6_edge 31 = .ok (.iand, 1) := by decide +kernel
theorem dX6_edge_32 : decode cX6_edge 32 = .ok (.goto 7, 3) := by decide +kernel
theorem dX6_edge_35 : decode cX6_edge 35 = .ok (.iload 4, 2) := by decide +kernel
theorem dX6_edge_37 : decode cX6_edge 37 = .ok (.iconst 3, 1) := by decide +kernel
theorem dX6_edge_38 : decode cX6_edge 38 = .ok (.iand, 1) := by decide +kernel
theorem dX6_edge_39 : decode cX6_edge 39 = .ok (.ireturn, 1) := by decide +kernel
theorem dX6_step_0 : decode cX6_step 0 = .ok (.aload_n 0, 1) := by decide +kernel
theorem dX6_step_1 : decode cX6_step 1 = .ok (.iload_n 1, 1) := by decide +kernel
theorem dX6_step_2 : decode cX6_step 2 = .ok (.iconst 0, 1) := by decide +kernel
theorem dX6_step_3 : decode cX6_step 3 = .ok (.invokevirtual 33, 3) := by decide +kernel
theorem dX6_step_6 : decode cX6_step 6 = .ok (.istore_n 2, 1) := by decide +kernel
theorem dX6_step_7 : decode cX6_step 7 = .ok (.aload_n 0, 1) := by decide +kernel
theorem dX6_step_8 : decode cX6_step 8 = .ok (.iload_n 1, 1) := by decide +kernel
theorem dX6_step_9 : decode cX6_step 9 = .ok (.invokevirtual 91, 3) := by decide +kernel
theorem dX6_step_12 : decode cX6_step 12 = .ok (.iconst 1, 1) := by decide +kernel
theorem dX6_step_13 : decode cX6_step 13 = .ok (.if_icmp .le 7, 3) := by decide +kernel
theorem dX6_step_16 : decode cX6_step 16 = .ok (.iconst 1, 1) := by decide +kernel
theorem dX6_step_17 : decode cX6_step 17 = .ok (.goto 4, 3) := by decide +kernel
theorem dX6_step_20 : decode cX6_step 20 = .ok (.iconst 0, 1) := by decide +kernel
theorem dX6_step_21 : decode cX6_step 21 = .ok (.istore_n 3, 1) := by decide +kernel
theorem dX6_step_22 : decode cX6_step 22 = .ok (.aload_n 0, 1) := by decide +kernel
theorem dX6_step_23 : decode cX6_step 23 = .ok (.iload_n 1, 1) := by decide +kernel
theorem dX6_step_24 : decode cX6_step 24 = .ok (.iconst 0, 1) := by decide +kernel
theorem dX6_step_25 : decode cX6_step 25 = .ok (.invokevirtual 94, 3) := by decide +kernel
theorem dX6_step_28 : decode cX6_step 28 = .ok (.ifCond .eq 16, 3) := by decide +kernel
theorem dX6_step_31 : decode cX6_step 31 = .ok (.iload_n 3, 1) := by decide +kernel
theorem dX6_step_32 : decode cX6_step 32 = .ok (.ifCond .ne 8, 3) := by decide +kernel
theorem dX6_step_35 : decode cX6_step 35 = .ok (.iload_n 2, 1) := by decide +kernel
theorem dX6_step_36 : decode cX6_step 36 = .ok (.iconst 1, 1) := by decide +kernel
theorem dX6_step_37 : decode cX6_step 37 = .ok (.if_icmp .le 7, 3) := by decide +kernel
theorem dX6_step_40 : decode cX6_step 40 = .ok (.iconst 1, 1) := by decide +kernel
theorem dX6_step_41 : decode cX6_step 41 = .ok (.goto 4, 3) := by decide +kernel
theorem dX6_step_44 : decode cX6_step 44 = .ok (.iconst 0, 1) := by decide +kernel
theorem dX6_step_45 : decode cX6_step 45 = .ok (.istore 4, 2) := by decide +kernel
theorem dX6_step_47 : decode cX6_step 47 = .ok (.iload 4, 2) := by decide +kernel
theorem dX6_step_49 : decode cX6_step 49 = .ok (.ifCond .ne 18, 3) := by decide +kernel
theorem dX6_step_52 : decode cX6_step 52 = .ok (.iload_n 3, 1) := by decide +kernel
theorem dX6_step_53 : decode cX6_step 53 = .ok (.ifCond .eq 12, 3) := by decide +kernel
theorem dX6_step_56 : decode cX6_step 56 = .ok (.aload_n 0, 1) := by decide +kernel
theorem dX6_step_57 : decode cX6_step 57 = .ok (.iload_n 1, 1) := by decide +kernel
theorem dX6_step_58 : decode cX6_step 58 = .ok (.iconst 1, 1) := by decide +kernel
theorem dX6_step_59 : decode cX6_step 59 = .ok (.invokevirtual 94, 3) := by decide +kernel
theorem dX6_step_62 : decode cX6_step 62 = .ok (.ifCond .ne 5, 3) := by decide +kernel
theorem dX6_step_65 : decode cX6_step 65 = .ok (.iconst 0, 1) := by decide +kernel
theorem dX6_step_66 : decode cX6_step 66 = .ok (.ireturn, 1) := by decide +kernel
theorem dX6_step_67 : decode cX6_step 67 = .ok (.iconst 0, 1) := by decide +kernel
theorem dX6_step_68 : decode cX6_step 68 = .ok (.istore 5, 2) := by decide +kernel
theorem dX6_step_70 : decode cX6_step 70 = .ok (.iload 5, 2) := by decide +kernel
theorem dX6_step_72 : decode cX6_step 72 = .ok (.aload_n 0, 1) := by decide +kernel
theorem dX6_step_73 : decode cX6_step 73 = .ok (.iload_n 1, 1) := by decide +kernel
theorem dX6_step_74 : decode cX6_step 74 = .ok (.iconst 1, 1) := by decide +kernel
theorem dX6_step_75 : decode cX6_step 75 = .ok (.invokevirtual 33, 3) := by decide +kernel
theorem dX6_step_78 : decode cX6_step 78 = .ok (.if_icmp .ge 134, 3) := by decide +kernel
theorem dX6_step_81 : decode cX6_step 81 = .ok (.aload_n 0, 1) := by decide +kernel
theorem dX6_step_82 : decode cX6_step 82 = .ok (.iload_n 1, 1) := by decide +kernel
theorem dX6_step_83 : decode cX6_step 83 = .ok (.iconst 2, 1) := by decide +kernel
theorem dX6_step_84 : decode cX6_step 84 = .ok (.iload 5, 2) := by decide +kernel
theorem dX6_step_86 : decode cX6_step 86 = .ok (.iadd, 1) := by decide +kernel
theorem dX6_step_87 : decode cX6_step 87 = .ok (.invokevirtual 33, 3) := by decide +kernel
theorem dX6_step_90 : decode cX6_step 90 = .ok (.iconst 1, 1) := by decide +kernel
theorem dX6_step_91 : decode cX6_step 91 = .ok (.isub, 1) := by decide +kernel
theorem dX6_step_92 : decode cX6_step 92 = .ok (.istore 6, 2) := by decide +kernel
theorem dX6_step_94 : decode cX6_step 94 = .ok (.aload_n 0, 1) := by decide +kernel
theorem dX6_step_95 : decode cX6_step 95 = .ok (.iload_n 1, 1) := by decide +kernel
theorem dX6_step_96 : decode cX6_step 96 = .ok (.bipush 6, 2) := by decide +kernel
theorem dX6_step_98 : decode cX6_step 98 = .ok (.iload 5, 2) := by decide +kernel
theorem dX6_step_100 : decode cX6_step 100 = .ok (.iadd, 1) := by decide +kernel
theorem dX6_step_101 : decode cX6_step 101 = .ok (.invokevirtual 33, 3) := by decide +kernel
theorem dX6_step_104 : decode cX6_step 104 = .ok (.istore 7, 2) := by decide +kernel
theorem dX6_step_106 : decode cX6_step 106 = .ok (.iload 4, 2) := by decide +kernel
theorem dX6_step_108 : decode cX6_step 108 = .ok (.ifCond .eq 10, 3) := by decide +kernel
theorem dX6_step_111 : decode cX6_step 111 = .ok (.iload 7, 2) := by decide +kernel
theorem dX6_step_113 : decode cX6_step 113 = .ok (.iconst 2, 1) := by decide +kernel
theorem dX6_step_114 : decode cX6_step 114 = .ok (.ishr, 1) := by decide +kernel
theorem dX6_step_115 : decode cX6_step 115 = .ok (.goto 14, 3) := by decide +kernel
theorem dX6_step_118 : decode cX6_step 118 = .ok (.iload 7, 2) := by decide +kernel
theorem dX6_step_120 : decode cX6_step 120 = .ok (.iconst 1, 1) := by decide +kernel
theorem dX6_step_121 : decode cX6_step 121 = .ok (.iconst 2, 1) := by decide +kernel
theorem dX6_step_122 : decode cX6_step 122 = .ok (.iload 6, 2) := by decide +kernel
theorem dX6_step_124 : decode cX6_step 124 = .ok (.imul, 1) := by decide +kernel
theorem dX6_step_125 : decode cX6_step 125 = .ok (.ishl, 1) := by decide +kernel
theorem dX6_step_126 : decode cX6_step 126 = .ok (.iconst 1, 1) := by decide +kernel
theorem dX6_step_127 : decode cX6_step 127 = .ok (.isub, 1) := by decide +kernel
theorem dX6_step_128 : decode cX6_step 128 = .ok (.iand, 1) := by decide +kernel
theorem dX6_step_129 : decode cX6_step 129 = .ok (.istore 7, 2) := by decide +kernel
theorem dX6_step_131 : decode cX6_step 131 = .ok (.iload 4, 2) := by decide +kernel
theorem dX6_step_133 : decode cX6_step 133 = .ok (.ifCond .eq 11, 3) := by decide +kernel
theorem dX6_step_136 : decode cX6_step 136 = .ok (.iload_n 3, 1) := by decide +kernel
theorem dX6_step_137 : decode cX6_step 137 = .ok (.ifCond .ne 7, 3) := by decide +kernel
theorem dX6_step_140 : decode cX6_step 140 = .ok (.iconst 1, 1) := by decide +kernel
theorem dX6_step_141 : decode cX6_step 141 = .ok (.goto 4, 3) := by decide +kernel
theorem dX6_step_144 : decode cX6_step 144 = .ok (.iconst 0, 1) := by decide +kernel
theorem dX6_step_145 : decode cX6_step 145 = .ok (.istore 8, 2) := by decide +kernel
theorem dX6_step_147 : decode cX6_step 147 = .ok (.aload_n 0, 1) := by decide +kernel
theorem dX6_step_148 : decode cX6_step 148 = .ok (.iload_n 1, 1) := by decide +kernel
theorem dX6_step_149 : decode cX6_step 149 = .ok (.bipush 6, 2) := by decide +kernel
theorem dX6_step_151 : decode cX6_step 151 = .ok (.iload 5, 2) := by decide +kernel
theorem dX6_step_153 : decode cX6_step 153 = .ok (.iadd, 1) := by decide +kernel
theorem dX6_step_154 : decode cX6_step 154 = .ok (.iload 8, 2) := by decide +kernel
theorem dX6_step_156 : decode cX6_step 156 = .ok (.ifCond .eq 22, 3) := by decide +kernel
theorem dX6_step_159 : decode cX6_step 159 = .ok (.iload 7, 2) := by decide +kernel
theorem dX6_step_161 : decode cX6_step 161 = .ok (.aload_n 0, 1) := by decide +kernel
theorem dX6_step_162 : decode cX6_step 162 = .ok (.getfield 7, 3) := by decide +kernel
theorem dX6_step_165 : decode cX6_step 165 = .ok (.iload_n 2, 1) := by decide +kernel
theorem dX6_step_166 : decode cX6_step 166 = .ok (.iconst 1, 1) := by decide +kernel
theorem dX6_step_167 : decode cX6_step 167 = .ok (.isub, 1) := by decide +kernel
theorem dX6_step_168 : decode cX6_step 168 = .ok (.iaload, 1) := by decide +kernel
theorem dX6_step_169 : decode cX6_step 169 = .ok (.iconst 2, 1) := by decide +kernel
theorem dX6_step_170 : decode cX6_step 170 = .ok (.iload 6, 2) := by decide +kernel
theorem dX6_step_172 : decode cX6_step 172 = .ok (.imul, 1) := by decide +kernel
theorem dX6_step_173 : decode cX6_step 173 = .ok (.ishl, 1) := by decide +kernel
theorem dX6_step_174 : decode cX6_step 174 = .ok (.ior, 1) := by decide +kernel
theorem dX6_step_175 : decode cX6_step 175 = .ok (.goto 5, 3) := by decide +kernel
theorem dX6_step_178 : decode cX6_step 178 = .ok (.iload 7, 2) := by decide +kernel
theorem dX6_step_180 : decode cX6_step 180 = .ok (.invokevirtual 29, 3) := by decide +kernel
theorem dX6_step_183 : decode cX6_step 183 = .ok (.aload_n 0, 1) := by decide +kernel
theorem dX6_step_184 : decode cX6_step 184 = .ok (.iload_n 1, 1) := by decide +kernel
theorem dX6_step_185 : decode cX6_step 185 = .ok (.iconst 2, 1) := by decide +kernel
theorem dX6_step_186 : decode cX6_step 186 = .ok (.iload 5, 2) := by decide +kernel
theorem dX6_step_188 : decode cX6_step 188 = .ok (.iadd, 1) := by decide +kernel
theorem dX6_step_189 : decode cX6_step 189 = .ok (.iload 8, 2) := by decide +kernel
theorem dX6_step_191 : decode cX6_step 191 = .ok (.ifCond .eq 10, 3) := by decide +kernel
theorem dX6_step_194 : decode cX6_step 194 = .ok (.iload 6, 2) := by decide +kernel
theorem dX6_step_196 : decode cX6_step 196 = .ok (.iconst 1, 1) := by decide +kernel
theorem dX6_step_197 : decode cX6_step 197 = .ok (.iadd, 1) := by decide +kernel
theorem dX6_step_198 : decode cX6_step 198 = .ok (.goto 5, 3) := by decide +kernel
theorem dX6_step_201 : decode cX6_step 201 = .ok (.iload 6, 2) := by decide +kernel
theorem dX6_step_203 : decode cX6_step 203 = .ok (.invokevirtual 29, 3) := by decide +kernel
theorem dX6_step_206 : decode cX6_step 206 = .ok (.iinc 5 1, 3) := by decide +kernel
theorem dX6_step_209 : decode cX6_step 209 = .ok (.goto (-139), 3) := by decide +kernel
theorem dX6_step_212 : decode cX6_step 212 = .ok (.aload_n 0, 1) := by decide +kernel
theorem dX6_step_213 : decode cX6_step 213 = .ok (.iload_n 1, 1) := by decide +kernel
theorem dX6_step_214 : decode cX6_step 214 = .ok (.iconst 0, 1) := by decide +kernel
theorem dX6_step_215 : decode cX6_step 215 = .ok (.iload 4, 2) := by decide +kernel
theorem dX6_step_217 : decode cX6_step 217 = .ok (.ifCond .eq 17, 3) := by decide +kernel
theorem dX6_step_220 : decode cX6_step 220 = .ok (.iload_n 3, 1) := by decide +kernel
theorem dX6_step_221 : decode cX6_step 221 = .ok (.ifCond .eq 7, 3) := by decide +kernel
theorem dX6_step_224 : decode cX6_step 224 = .ok (.iload_n 2, 1) := by decide +kernel
theorem dX6_step_225 : decode cX6_step 225 = .ok (.goto 12, 3) := by decide +kernel
theorem dX6_step_228 : decode cX6_step 228 = .ok (.iload_n 2, 1) := by decide +kernel
theorem dX6_step_229 : decode cX6_step 229 = .ok (.iconst 1, 1) := by decide +kernel
theorem dX6_step_230 : decode cX6_step 230 = .ok (.isub, 1) := by decide +kernel
theorem dX6_step_231 : decode cX6_step 231 = .ok (.goto 6, 3) := by decide +kernel
theorem dX6_step_234 : decode cX6_step 234 = .ok (.iload_n 2, 1) := by decide +kernel
theorem dX6_step_235 : decode cX6_step 235 = .ok (.iconst 1, 1) := by decide +kernel
theorem dX6_step_236 : decode cX6_step 236 = .ok (.iadd, 1) := by decide +kernel
theorem dX6_step_237 : decode cX6_step 237 = .ok (.invokevirtual 29, 3) := by decide +kernel
theorem dX6_step_240 : decode cX6_step 240 = .ok (.iconst 1, 1) := by decide +kernel
theorem dX6_step_241 : decode cX6_step 241 = .ok (.ireturn, 1) := by decide +kernel
theorem dX6_normalise_0 : decode cX6_normalise 0 = .ok (.aload_n 0, 1) := by decide +kernel
theorem dX6_normalise_1 : decode cX6_normalise 1 = .ok (.iload_n 1, 1) := by decide +kernel
theorem dX6_normalise_2 : decode cX6_normalise 2 = .ok (.aload_n 0, 1) := by decide +kernel
theorem dX6_normalise_3 : decode cX6_normalise 3 = .ok (.getfield 44, 3) := by decide +kernel
theorem dX6_normalise_6 : decode cX6_normalise 6 = .ok (.invokestatic 67, 3) := by decide +kernel
theorem dX6_normalise_9 : decode cX6_normalise 9 = .ok (.iconst 0, 1) := by decide +kernel
theorem dX6_normalise_10 : decode cX6_normalise 10 = .ok (.invokevirtual 47, 3) := by decide +kernel
theorem dX6_normalise_13 : decode cX6_normalise 13 = .ok (.ifCond .eq 5, 3) := by decide +kernel
theorem dX6_normalise_16 : decode cX6_normalise 16 = .ok (.iconst 0, 1) := by decide +kernel
theorem dX6_normalise_17 : decode cX6_normalise 17 = .ok (.ireturn, 1) := by decide +kernel
theorem dX6_normalise_18 : decode cX6_normalise 18 = .ok (.aload_n 0, 1) := by decide +kernel
theorem dX6_normalise_19 : decode cX6_normalise 19 = .ok (.iload_n 1, 1) := by decide +kernel
theorem dX6_normalise_20 : decode cX6_normalise 20 = .ok (.bipush 25, 2) := by decide +kernel
theorem dX6_normalise_22 : decode cX6_normalise 22 = .ok (.invokevirtual 81, 3) := by decide +kernel
theorem dX6_normalise_25 : decode cX6_normalise 25 = .ok (.iconst 1, 1) := by decide +kernel
theorem dX6_normalise_26 : decode cX6_normalise 26 = .ok (.istore_n 2, 1) := by decide +kernel
theorem dX6_normalise_27 : decode cX6_normalise 27 = .ok (.iload_n 2, 1) := by decide +kernel
theorem dX6_normalise_28 : decode cX6_normalise 28 = .ok (.ifCond .eq 13, 3) := by decide +kernel
theorem dX6_normalise_31 : decode cX6_normalise 31 = .ok (.aload_n 0, 1) := by decide +kernel
theorem dX6_normalise_32 : decode cX6_normalise 32 = .ok (.bipush 25, 2) := by decide +kernel
theorem dX6_normalise_34 : decode cX6_normalise 34 = .ok (.invokevirtual 98, 3) := by decide +kernel
theorem dX6_normalise_37 : decode cX6_normalise 37 = .ok (.istore_n 2, 1) := by decide +kernel
theorem dX6_normalise_38 : decode cX6_normalise 38 = .ok (.goto (-11), 3) := by decide +kernel
theorem dX6_normalise_41 : decode cX6_normalise 41 = .ok (.aload_n 0, 1) := by decide +kernel
theorem dX6_normalise_42 : decode cX6_normalise 42 = .ok (.iload_n 1, 1) := by decide +kernel
theorem dX6_normalise_43 : decode cX6_normalise 43 = .ok (.invokevirtual 84, 3) := by decide +kernel
theorem dX6_normalise_46 : decode cX6_normalise 46 = .ok (.aload_n 0, 1) := by decide +kernel
theorem dX6_normalise_47 : decode cX6_normalise 47 = .ok (.bipush 25, 2) := by decide +kernel
theorem dX6_normalise_49 : decode cX6_normalise 49 = .ok (.invokevirtual 74, 3) := by decide +kernel
theorem dX6_normalise_52 : decode cX6_normalise 52 = .ok (.ireturn, 1) := by decide +kernel
theorem dX6_part_0 : decode cX6_part 0 = .ok (.aload_n 0, 1) := by decide +kernel
theorem dX6_part_1 : decode cX6_part 1 = .ok (.bipush 25, 2) := by decide +kernel
theorem dX6_part_3 : decode cX6_part 3 = .ok (.aload_n 0, 1) := by decide +kernel
theorem dX6_part_4 : decode cX6_part 4 = .ok (.iload_n 1, 1) := by decide +kernel
theorem dX6_part_5 : decode cX6_part 5 = .ok (.iconst 0, 1) := by decide +kernel
theorem dX6_part_6 : decode cX6_part 6 = .ok (.invokevirtual 33, 3) := by decide +kernel
theorem dX6_part_9 : decode cX6_part 9 = .ok (.invokevirtual 53, 3) := by decide +kernel
theorem dX6_part_12 : decode cX6_part 12 = .ok (.aload_n 0, 1) := by decide +kernel
theorem dX6_part_13 : decode cX6_part 13 = .ok (.bipush 25, 2) := by decide +kernel
theorem dX6_part_15 : decode cX6_part 15 = .ok (.aload_n 0, 1) := by decide +kernel
theorem dX6_part_16 : decode cX6_part 16 = .ok (.iload_n 1, 1) := by decide +kernel
theorem dX6_part_17 : decode cX6_part 17 = .ok (.iconst 2, 1) := by decide +kernel
theorem dX6_part_18 : decode cX6_part 18 = .ok (.invokevirtual 33, 3) := by decide +kernel
theorem dX6_part_21 : decode cX6_part 21 = .ok (.aload_n 0, 1) := by decide +kernel
theorem dX6_part_22 : decode cX6_part 22 = .ok (.iload_n 1, 1) := by decide +kernel
theorem dX6_part_23 : decode cX6_part 23 = .ok (.bipush 6, 2) := by decide +kernel
theorem dX6_part_25 : decode cX6_part 25 = .ok (.invokevirtual 33, 3) := by decide +kernel
theorem dX6_part_28 : decode cX6_part 28 = .ok (.invokevirtual 60, 3) := by decide +kernel
theorem dX6_part_31 : decode cX6_part 31 = .ok (.aload_n 0, 1) := by decide +kernel
theorem dX6_part_32 : decode cX6_part 32 = .ok (.bipush 25, 2) := by decide +kernel
theorem dX6_part_34 : decode cX6_part 34 = .ok (.aload_n 0, 1) := by decide +kernel
theorem dX6_part_35 : decode cX6_part 35 = .ok (.iload_n 1, 1) := by decide +kernel
theorem dX6_part_36 : decode cX6_part 36 = .ok (.iconst 2, 1) := by decide +kernel
theorem dX6_part_37 : decode cX6_part 37 = .ok (.iload_n 2, 1) := by decide +kernel
theorem dX6_part_38 : decode cX6_part 38 = .ok (.iadd, 1) := by decide +kernel
theorem dX6_part_39 : decode cX6_part 39 = .ok (.invokevirtual 33, 3) := by decide +kernel
theorem dX6_part_42 : decode cX6_part 42 = .ok (.aload_n 0, 1) := by decide +kernel
theorem dX6_part_43 : decode cX6_part 43 = .ok (.iload_n 1, 1) := by decide +kernel
theorem dX6_part_44 : decode cX6_part 44 = .ok (.bipush 6, 2) := by decide +kernel
theorem dX6_part_46 : decode cX6_part 46 = .ok (.iload_n 2, 1) := by decide +kernel
theorem dX6_part_47 : decode cX6_part 47 = .ok (.iadd, 1) := by decide +kernel
theorem dX6_part_48 : decode cX6_part 48 = .ok (.invokevirtual 33, 3) := by decide +kernel
theorem dX6_part_51 : decode cX6_part 51 = .ok (.invokevirtual 60, 3) := by decide +kernel
theorem dX6_part_54 : decode cX6_part 54 = .ok (.aload_n 0, 1) := by decide +kernel
theorem dX6_part_55 : decode cX6_part 55 = .ok (.bipush 25, 2) := by decide +kernel
theorem dX6_part_57 : decode cX6_part 57 = .ok (.bipush 10, 2) := by decide +kernel
theorem dX6_part_59 : decode cX6_part 59 = .ok (.aload_n 0, 1) := by decide +kernel
theorem dX6_part_60 : decode cX6_part 60 = .ok (.iload_n 1, 1) := by decide +kernel
theorem dX6_part_61 : decode cX6_part 61 = .ok (.bipush 10, 2) := by decide +kernel
theorem dX6_part_63 : decode cX6_part 63 = .ok (.invokevirtual 33, 3) := by decide +kernel
theorem dX6_part_66 : decode cX6_part 66 = .ok (.invokevirtual 29, 3) := by decide +kernel
theorem dX6_part_69 : decode cX6_part 69 = .ok (.aload_n 0, 1) := by decide +kernel
theorem dX6_part_70 : decode cX6_part 70 = .ok (.bipush 25, 2) := by decide +kernel
theorem dX6_part_72 : decode cX6_part 72 = .ok (.bipush 11, 2) := by decide +kernel
theorem dX6_part_74 : decode cX6_part 74 = .ok (.aload_n 0, 1) := by decide +kernel
theorem dX6_part_75 : decode cX6_part 75 = .ok (.iload_n 1, 1) := by decide +kernel
theorem dX6_part_76 : decode cX6_part 76 = .ok (.bipush 11, 2) := by decide +kernel
theorem dX6_part_78 : decode cX6_part 78 = .ok (.invokevirtual 33, 3) := by decide +kernel
theorem dX6_part_81 : decode cX6_part 81 = .ok (.invokevirtual 29, 3) := by decide +kernel
theorem dX6_part_84 : decode cX6_part 84 = .ok (.aload_n 0, 1) := by decide +kernel
theorem dX6_part_85 : decode cX6_part 85 = .ok (.bipush 25, 2) := by decide +kernel
theorem dX6_part_87 : decode cX6_part 87 = .ok (.bipush 12, 2) := by decide +kernel
theorem dX6_part_89 : decode cX6_part 89 = .ok (.aload_n 0, 1) := by decide +kernel
theorem dX6_part_90 : decode cX6_part 90 = .ok (.iload_n 1, 1) := by decide +kernel
theorem dX6_part_91 : decode cX6_part 91 = .ok (.bipush 11, 2) := by decide +kernel
theorem dX6_part_93 : decode cX6_part 93 = .ok (.iload_n 2, 1) := by decide +kernel
theorem dX6_part_94 : decode cX6_part 94 = .ok (.iadd, 1) := by decide +kernel
theorem dX6_part_95 : decode cX6_part 95 = .ok (.invokevirtual 33, 3) := by decide +kernel
theorem dX6_part_98 : decode cX6_part 98 = .ok (.invokevirtual 29, 3) := by decide +kernel
theorem dX6_part_101 : decode cX6_part 101 = .ok (.iconst 0, 1) := by decide +kernel
theorem dX6_part_102 : decode cX6_part 102 = .ok (.istore_n 3, 1) := by decide +kernel
theorem dX6_part_103 : decode cX6_part 103 = .ok (.iload_n 3, 1) := by decide +kernel
theorem dX6_part_104 : decode cX6_part 104 = .ok (.iconst 2, 1) := by decide +kernel
theorem dX6_part_105 : decode cX6_part 105 = .ok (.if_icmp .ge 172, 3) := by decide +kernel
theorem dX6_part_108 : decode cX6_part 108 = .ok (.iconst 0, 1) := by decide +kernel
theorem dX6_part_109 : decode cX6_part 109 = .ok (.istore 4, 2) := by decide +kernel
theorem dX6_part_111 : decode cX6_part 111 = .ok (.iload 4, 2) := by decide +kernel
theorem dX6_part_113 : decode cX6_part 113 = .ok (.iconst 2, 1) := by decide +kernel
theorem dX6_part_114 : decode cX6_part 114 = .ok (.if_icmp .ge 60, 3) := by decide +kernel
theorem dX6_part_117 : decode cX6_part 117 = .ok (.aload_n 0, 1) := by decide +kernel
theorem dX6_part_118 : decode cX6_part 118 = .ok (.iload_n 1, 1) := by decide +kernel
theorem dX6_part_119 : decode cX6_part 119 = .ok (.bipush 15, 2) := by decide +kernel
theorem dX6_part_121 : decode cX6_part 121 = .ok (.iconst 3, 1) := by decide +kernel
theorem dX6_part_122 : decode cX6_part 122 = .ok (.iload_n 3, 1) := by decide +kernel
theorem dX6_part_123 : decode cX6_part 123 = .ok (.imul, 1) := by decide +kernel
theorem dX6_part_124 : decode cX6_part 124 = .ok (.iadd, 1) := by decide +kernel
theorem dX6_part_125 : decode cX6_part 125 = .ok (.iload 4, 2) := by decide +kernel
theorem dX6_part_127 : decode cX6_part 127 = .ok (.iadd, 1) := by decide +kernel
theorem dX6_part_128 : decode cX6_part 128 = .ok (.invokevirtual 33, 3) := by decide +kernel
theorem dX6_part_131 : decode cX6_part 131 = .ok (.istore 5, 2) := by decide +kernel
theorem dX6_part_133 : decode cX6_part 133 = .ok (.aload_n 0, 1) := by decide +kernel
theorem dX6_part_134 : decode cX6_part 134 = .ok (.bipush 25, 2) := by decide +kernel
theorem dX6_part_136 : decode cX6_part 136 = .ok (.bipush 15, 2) := by decide +kernel
theorem dX6_part_138 : decode cX6_part 138 = .ok (.iconst 3, 1) := by decide +kernel
theorem dX6_part_139 : decode cX6_part 139 = .ok (.iload_n 3, 1) := by decide +kernel
theorem dX6_part_140 : decode cX6_part 140 = .ok (.imul, 1) := by decide +kernel
theorem dX6_part_141 : decode cX6_part 141 = .ok (.iadd, 1) := by decide +kernel
theorem dX6_part_142 : decode cX6_part 142 = .ok (.iload 4, 2) := by decide +kernel
theorem dX6_part_144 : decode cX6_part 144 = .ok (.iadd, 1) := by decide +kernel
theorem dX6_part_145 : decode cX6_part 145 = .ok (.iload 5, 2) := by decide +kernel
theorem dX6_part_147 : decode cX6_part 147 = .ok (.ifCond .ge 7, 3) := by decide +kernel
theorem dX6_part_150 : decode cX6_part 150 = .ok (.iconst (-1), 1) := by decide +kernel
theorem dX6_part_151 : decode cX6_part 151 = .ok (.goto 14, 3) := by decide +kernel
theorem dX6_part_154 : decode cX6_part 154 = .ok (.iload 5, 2) := by decide +kernel
theorem dX6_part_156 : decode cX6_part 156 = .ok (.iload_n 2, 1) := by decide +kernel
theorem dX6_part_157 : decode cX6_part 157 = .ok (.if_icmp .ne 7, 3) := by decide +kernel
theorem dX6_part_160 : decode cX6_part 160 = .ok (.iconst 1, 1) := by decide +kernel
theorem dX6_part_161 : decode cX6_part 161 = .ok (.goto 4, 3) := by decide +kernel
theorem dX6_part_164 : decode cX6_part 164 = .ok (.iconst 0, 1) := by decide +kernel
theorem dX6_part_165 : decode cX6_part 165 = .ok (.invokevirtual 29, 3) := by decide +kernel
theorem dX6_part_168 : decode cX6_part 168 = .ok (.iinc 4 1, 3) := by decide +kernel
theorem dX6_part_171 : decode cX6_part 171 = .ok (.goto (-60), 3) := by decide +kernel
theorem dX6_part_174 : decode cX6_part 174 = .ok (.aload_n 0, 1) := by decide +kernel
theorem dX6_part_175 : decode cX6_part 175 = .ok (.bipush 25, 2) := by decide +kernel
theorem dX6_part_177 : decode cX6_part 177 = .ok (.bipush 15, 2) := by decide +kernel
theorem dX6_part_179 : decode cX6_part 179 = .ok (.iconst 3, 1) := by decide +kernel
theorem dX6_part_180 : decode cX6_part 180 = .ok (.iload_n 3, 1) := by decide +kernel
theorem dX6_part_181 : decode cX6_part 181 = .ok (.imul, 1) := by decide +kernel
theorem dX6_part_182 : decode cX6_part 182 = .ok (.iadd, 1) := by decide +kernel
theorem dX6_part_183 : decode cX6_part 183 = .ok (.iconst 2, 1) := by decide +kernel
theorem dX6_part_184 : decode cX6_part 184 = .ok (.iadd, 1) := by decide +kernel
theorem dX6_part_185 : decode cX6_part 185 = .ok (.aload_n 0, 1) := by decide +kernel
theorem dX6_part_186 : decode cX6_part 186 = .ok (.iload_n 1, 1) := by decide +kernel
theorem dX6_part_187 : decode cX6_part 187 = .ok (.bipush 15, 2) := by decide +kernel
theorem dX6_part_189 : decode cX6_part 189 = .ok (.iconst 3, 1) := by decide +kernel
theorem dX6_part_190 : decode cX6_part 190 = .ok (.iload_n 3, 1) := by decide +kernel
theorem dX6_part_191 : decode cX6_part 191 = .ok (.imul, 1) := by decide +kernel
theorem dX6_part_192 : decode cX6_part 192 = .ok (.iadd, 1) := by decide +kernel
theorem dX6_part_193 : decode cX6_part 193 = .ok (.iconst 2, 1) := by decide +kernel
theorem dX6_part_194 : decode cX6_part 194 = .ok (.iadd, 1) := by decide +kernel
theorem dX6_part_195 : decode cX6_part 195 = .ok (.invokevirtual 33, 3) := by decide +kernel
theorem dX6_part_198 : decode cX6_part 198 = .ok (.invokevirtual 29, 3) := by decide +kernel
theorem dX6_part_201 : decode cX6_part 201 = .ok (.bipush 21, 2) := by decide +kernel
theorem dX6_part_203 : decode cX6_part 203 = .ok (.bipush 10, 2) := by decide +kernel
theorem dX6_part_205 : decode cX6_part 205 = .ok (.iload_n 3, 1) := by decide +kernel
theorem dX6_part_206 : decode cX6_part 206 = .ok (.imul, 1) := by decide +kernel
theorem dX6_part_207 : decode cX6_part 207 = .ok (.iadd, 1) := by decide +kernel
theorem dX6_part_208 : decode cX6_part 208 = .ok (.istore 4, 2) := by decide +kernel
theorem dX6_part_210 : decode cX6_part 210 = .ok (.aload_n 0, 1) := by decide +kernel
theorem dX6_part_211 : decode cX6_part 211 = .ok (.bipush 25, 2) := by decide +kernel
theorem dX6_part_213 : decode cX6_part 213 = .ok (.iload 4, 2) := by decide +kernel
theorem dX6_part_215 : decode cX6_part 215 = .ok (.aload_n 0, 1) := by decide +kernel
theorem dX6_part_216 : decode cX6_part 216 = .ok (.iload_n 1, 1) := by decide +kernel
theorem dX6_part_217 : decode cX6_part 217 = .ok (.iload 4, 2) := by decide +kernel
theorem dX6_part_219 : decode cX6_part 219 = .ok (.invokevirtual 33, 3) := by decide +kernel
theorem dX6_part_222 : decode cX6_part 222 = .ok (.invokevirtual 29, 3) := by decide +kernel
theorem dX6_part_225 : decode cX6_part 225 = .ok (.aload_n 0, 1) := by decide +kernel
theorem dX6_part_226 : decode cX6_part 226 = .ok (.bipush 25, 2) := by decide +kernel
theorem dX6_part_228 : decode cX6_part 228 = .ok (.iload 4, 2) := by decide +kernel
theorem dX6_part_230 : decode cX6_part 230 = .ok (.iconst 1, 1) := by decide +kernel
theorem dX6_part_231 : decode cX6_part 231 = .ok (.iadd, 1) := by decide +kernel
theorem dX6_part_232 : decode cX6_part 232 = .ok (.aload_n 0, 1) := by decide +kernel
theorem dX6_part_233 : decode cX6_part 233 = .ok (.iload_n 1, 1) := by decide +kernel
theorem dX6_part_234 : decode cX6_part 234 = .ok (.iload 4, 2) := by decide +kernel
theorem dX6_part_236 : decode cX6_part 236 = .ok (.iconst 0, 1) := by decide +kernel
theorem dX6_part_237 : decode cX6_part 237 = .ok (.iload_n 2, 1) := by decide +kernel
theorem dX6_part_238 : decode cX6_part 238 = .ok (.invokestatic 102, 3) := by decide +kernel
theorem dX6_part_241 : decode cX6_part 241 = .ok (.iadd, 1) := by decide +kernel
theorem dX6_part_242 : decode cX6_part 242 = .ok (.invokevirtual 33, 3) := by decide +kernel
theorem dX6_part_245 : decode cX6_part 245 = .ok (.invokevirtual 29, 3) := by decide +kernel
theorem dX6_part_248 : decode cX6_part 248 = .ok (.aload_n 0, 1) := by decide +kernel
theorem dX6_part_249 : decode cX6_part 249 = .ok (.bipush 25, 2) := by decide +kernel
theorem dX6_part_251 : decode cX6_part 251 = .ok (.iload 4, 2) := by decide +kernel
theorem dX6_part_253 : decode cX6_part 253 = .ok (.iconst 2, 1) := by decide +kernel
theorem dX6_part_254 : decode cX6_part 254 = .ok (.iadd, 1) := by decide +kernel
theorem dX6_part_255 : decode cX6_part 255 = .ok (.aload_n 0, 1) := by decide +kernel
theorem dX6_part_256 : decode cX6_part 256 = .ok (.iload_n 1, 1) := by decide +kernel
theorem dX6_part_257 : decode cX6_part 257 = .ok (.iload 4, 2) := by decide +kernel
theorem dX6_part_259 : decode cX6_part 259 = .ok (.iload_n 2, 1) := by decide +kernel
theorem dX6_part_260 : decode cX6_part 260 = .ok (.iload_n 2, 1) := by decide +kernel
theorem dX6_part_261 : decode cX6_part 261 = .ok (.invokestatic 102, 3) := by decide +kernel
theorem dX6_part_264 : decode cX6_part 264 = .ok (.iadd, 1) := by decide +kernel
theorem dX6_part_265 : decode cX6_part 265 = .ok (.invokevirtual 33, 3) := by decide +kernel
theorem dX6_part_268 : decode cX6_part 268 = .ok (.invokevirtual 29, 3) := by decide +kernel
theorem dX6_part_271 : decode cX6_part 271 = .ok (.iinc 3 1, 3) := by decide +kernel
theorem dX6_part_274 : decode cX6_part 274 = .ok (.goto (-171), 3) := by decide +kernel
theorem dX6_part_277 : decode cX6_part 277 = .ok (.return_, 1) := by decide +kernel
theorem dX6_split_0 : decode cX6_split 0 = .ok (.iload_n 1, 1) := by decide +kernel
theorem dX6_split_1 : decode cX6_split 1 = .ok (.aload_n 0, 1) := by decide +kernel
theorem dX6_split_2 : decode cX6_split 2 = .ok (.getfield 44, 3) := by decide +kernel
theorem dX6_split_5 : decode cX6_split 5 = .ok (.invokestatic 67, 3) := by decide +kernel
theorem dX6_split_8 : decode cX6_split 8 = .ok (.istore_n 2, 1) := by decide +kernel
theorem dX6_split_9 : decode cX6_split 9 = .ok (.iload_n 2, 1) := by decide +kernel
theorem dX6_split_10 : decode cX6_split 10 = .ok (.ifCond .eq 7, 3) := by decide +kernel
theorem dX6_split_13 : decode cX6_split 13 = .ok (.iconst 0, 1) := by decide +kernel
theorem dX6_split_14 : decode cX6_split 14 = .ok (.goto 11, 3) := by decide +kernel
theorem dX6_split_17 : decode cX6_split 17 = .ok (.aload_n 0, 1) := by decide +kernel
theorem dX6_split_18 : decode cX6_split 18 = .ok (.iload_n 1, 1) := by decide +kernel
theorem dX6_split_19 : decode cX6_split 19 = .ok (.iconst 1, 1) := by decide +kernel
theorem dX6_split_20 : decode cX6_split 20 = .ok (.invokevirtual 33, 3) := by decide +kernel
theorem dX6_split_23 : decode cX6_split 23 = .ok (.iconst 1, 1) := by decide +kernel
theorem dX6_split_24 : decode cX6_split 24 = .ok (.isub, 1) := by decide +kernel
theorem dX6_split_25 : decode cX6_split 25 = .ok (.istore_n 3, 1) := by decide +kernel
theorem dX6_split_26 : decode cX6_split 26 = .ok (.aload_n 0, 1) := by decide +kernel
theorem dX6_split_27 : decode cX6_split 27 = .ok (.iload_n 2, 1) := by decide +kernel
theorem dX6_split_28 : decode cX6_split 28 = .ok (.iload_n 3, 1) := by decide +kernel
theorem dX6_split_29 : decode cX6_split 29 = .ok (.iconst 2, 1) := by decide +kernel
theorem dX6_split_30 : decode cX6_split 30 = .ok (.if_icmp .lt 16, 3) := by decide +kernel
theorem dX6_split_33 : decode cX6_split 33 = .ok (.aload_n 0, 1) := by decide +kernel
theorem dX6_split_34 : decode cX6_split 34 = .ok (.getfield 44, 3) := by decide +kernel
theorem dX6_split_37 : decode cX6_split 37 = .ok (.iload_n 3, 1) := by decide +kernel
theorem dX6_split_38 : decode cX6_split 38 = .ok (.iadd, 1) := by decide +kernel
theorem dX6_split_39 : decode cX6_split 39 = .ok (.iconst 1, 1) := by decide +kernel
theorem dX6_split_40 : decode cX6_split 40 = .ok (.isub, 1) := by decide +kernel
theorem dX6_split_41 : decode cX6_split 41 = .ok (.bipush 24, 2) := by decide +kernel
theorem dX6_split_43 : decode cX6_split 43 = .ok (.if_icmp .le 7, 3) := by decide +kernel
theorem dX6_split_46 : decode cX6_split 46 = .ok (.iconst 1, 1) := by decide +kernel
theorem dX6_split_47 : decode cX6_split 47 = .ok (.goto 4, 3) := by decide +kernel
theorem dX6_split_50 : decode cX6_split 50 = .ok (.iconst 0, 1) := by decide +kernel
theorem dX6_split_51 : decode cX6_split 51 = .ok (.invokevirtual 47, 3) := by decide +kernel
theorem dX6_split_54 : decode cX6_split 54 = .ok (.ifCond .eq 5, 3) := by decide +kernel
theorem dX6_split_57 : decode cX6_split 57 = .ok (.iconst 0, 1) := by decide +kernel
theorem dX6_split_58 : decode cX6_split 58 = .ok (.ireturn, 1) := by decide +kernel
theorem dX6_split_59 : decode cX6_split 59 = .ok (.aload_n 0, 1) := by decide +kernel
theorem dX6_split_60 : decode cX6_split 60 = .ok (.iload_n 1, 1) := by decide +kernel
theorem dX6_split_61 : decode cX6_split 61 = .ok (.bipush 26, 2) := by decide +kernel
theorem dX6_split_63 : decode cX6_split 63 = .ok (.invokevirtual 81, 3) := by decide +kernel
theorem dX6_split_66 : decode cX6_split 66 = .ok (.aload_n 0, 1) := by decide +kernel
theorem dX6_split_67 : decode cX6_split 67 = .ok (.iload_n 1, 1) := by decide +kernel
theorem dX6_split_68 : decode cX6_split 68 = .ok (.invokevirtual 84, 3) := by decide +kernel
theorem dX6_split_71 : decode cX6_split 71 = .ok (.iconst 1, 1) := by decide +kernel
theorem dX6_split_72 : decode cX6_split 72 = .ok (.istore 4, 2) := by decide +kernel
theorem dX6_split_74 : decode cX6_split 74 = .ok (.iload 4, 2) := by decide +kernel
theorem dX6_split_76 : decode cX6_split 76 = .ok (.iload_n 3, 1) := by decide +kernel
theorem dX6_split_77 : decode cX6_split 77 = .ok (.if_icmp .gt 39, 3) := by decide +kernel
theorem dX6_split_80 : decode cX6_split 80 = .ok (.aload_n 0, 1) := by decide +kernel
theorem dX6_split_81 : decode cX6_split 81 = .ok (.bipush 26, 2) := by decide +kernel
theorem dX6_split_83 : decode cX6_split 83 = .ok (.iload 4, 2) := by decide +kernel
theorem dX6_split_85 : decode cX6_split 85 = .ok (.invokevirtual 105, 3) := by decide +kernel
theorem dX6_split_88 : decode cX6_split 88 = .ok (.aload_n 0, 1) := by decide +kernel
theorem dX6_split_89 : decode cX6_split 89 = .ok (.iload_n 1, 1) := by decide +kernel
theorem dX6_split_90 : decode cX6_split 90 = .ok (.iload 4, 2) := by decide +kernel
theorem dX6_split_92 : decode cX6_split 92 = .ok (.iadd, 1) := by decide +kernel
theorem dX6_split_93 : decode cX6_split 93 = .ok (.iconst 1, 1) := by decide +kernel
theorem dX6_split_94 : decode cX6_split 94 = .ok (.isub, 1) := by decide +kernel
theorem dX6_split_95 : decode cX6_split 95 = .ok (.invokevirtual 77, 3) := by decide +kernel
theorem dX6_split_98 : decode cX6_split 98 = .ok (.aload_n 0, 1) := by decide +kernel
theorem dX6_split_99 : decode cX6_split 99 = .ok (.bipush 25, 2) := by decide +kernel
theorem dX6_split_101 : decode cX6_split 101 = .ok (.iload_n 1, 1) := by decide +kernel
theorem dX6_split_102 : decode cX6_split 102 = .ok (.iload 4, 2) := by decide +kernel
theorem dX6_split_104 : decode cX6_split 104 = .ok (.iadd, 1) := by decide +kernel
theorem dX6_split_105 : decode cX6_split 105 = .ok (.iconst 1, 1) := by decide +kernel
theorem dX6_split_106 : decode cX6_split 106 = .ok (.isub, 1) := by decide +kernel
theorem dX6_split_107 : decode cX6_split 107 = .ok (.invokevirtual 81, 3) := by decide +kernel
theorem dX6_split_110 : decode cX6_split 110 = .ok (.iinc 4 1, 3) := by decide +kernel
theorem dX6_split_113 : decode cX6_split 113 = .ok (.goto (-39), 3) := by decide +kernel
theorem dX6_split_116 : decode cX6_split 116 = .ok (.iload_n 3, 1) := by decide +kernel
theorem dX6_split_117 : decode cX6_split 117 = .ok (.ireturn, 1) := by decide +kernel
theorem dX6_gather_0 : decode cX6_gather 0 = .ok (.aload_n 0, 1) := by decide +kernel
theorem dX6_gather_1 : decode cX6_gather 1 = .ok (.bipush 25, 2) := by decide +kernel
theorem dX6_gather_3 : decode cX6_gather 3 = .ok (.iconst 2, 1) := by decide +kernel
theorem dX6_gather_4 : decode cX6_gather 4 = .ok (.invokevirtual 33, 3) := by decide +kernel
theorem dX6_gather_7 : decode cX6_gather 7 = .ok (.aload_n 0, 1) := by decide +kernel
theorem dX6_gather_8 : decode cX6_gather 8 = .ok (.iload_n 1, 1) := by decide +kernel
theorem dX6_gather_9 : decode cX6_gather 9 = .ok (.iconst 2, 1) := by decide +kernel
theorem dX6_gather_10 : decode cX6_gather 10 = .ok (.invokevirtual 33, 3) := by decide +kernel
theorem dX6_gather_13 : decode cX6_gather 13 = .ok (.isub, 1) := by decide +kernel
theorem dX6_gather_14 : decode cX6_gather 14 = .ok (.istore_n 3, 1) := by decide +kernel
theorem dX6_gather_15 : decode cX6_gather 15 = .ok (.aload_n 0, 1) := by decide +kernel
theorem dX6_gather_16 : decode cX6_gather 16 = .ok (.bipush 25, 2) := by decide +kernel
theorem dX6_gather_18 : decode cX6_gather 18 = .ok (.bipush 6, 2) := by decide +kernel
theorem dX6_gather_20 : decode cX6_gather 20 = .ok (.invokevirtual 33, 3) := by decide +kernel
theorem dX6_gather_23 : decode cX6_gather 23 = .ok (.iconst 1, 1) := by decide +kernel
theorem dX6_gather_24 : decode cX6_gather 24 = .ok (.iconst 2, 1) := by decide +kernel
theorem dX6_gather_25 : decode cX6_gather 25 = .ok (.iload_n 3, 1) := by decide +kernel
theorem dX6_gather_26 : decode cX6_gather 26 = .ok (.imul, 1) := by decide +kernel
theorem dX6_gather_27 : decode cX6_gather 27 = .ok (.ishl, 1) := by decide +kernel
theorem dX6_gather_28 : decode cX6_gather 28 = .ok (.iconst 1, 1) := by decide +kernel
theorem dX6_gather_29 : decode cX6_gather 29 = .ok (.isub, 1) := by decide +kernel
theorem dX6_gather_30 : decode cX6_gather 30 = .ok (.iand, 1) := by decide +kernel
theorem dX6_gather_31 : decode cX6_gather 31 = .ok (.istore 4, 2) := by decide +kernel
theorem dX6_gather_33 : decode cX6_gather 33 = .ok (.aload_n 0, 1) := by decide +kernel
theorem dX6_gather_34 : decode cX6_gather 34 = .ok (.getfield 22, 3) := by decide +kernel
theorem dX6_gather_37 : decode cX6_gather 37 = .ok (.iconst 4, 1) := by decide +kernel
theorem dX6_gather_38 : decode cX6_gather 38 = .ok (.iload_n 2, 1) := by decide +kernel
theorem dX6_gather_39 : decode cX6_gather 39 = .ok (.imul, 1) := by decide +kernel
theorem dX6_gather_40 : decode cX6_gather 40 = .ok (.iconst 0, 1) := by decide +kernel
theorem dX6_gather_41 : decode cX6_gather 41 = .ok (.iastore, 1) := by decide +kernel
theorem dX6_gather_42 : decode cX6_gather 42 = .ok (.iconst 1, 1) := by decide +kernel
theorem dX6_gather_43 : decode cX6_gather 43 = .ok (.istore 5, 2) := by decide +kernel
theorem dX6_gather_45 : decode cX6_gather 45 = .ok (.iload 5, 2) := by decide +kernel
theorem dX6_gather_47 : decode cX6_gather 47 = .ok (.aload_n 0, 1) := by decide +kernel
theorem dX6_gather_48 : decode cX6_gather 48 = .ok (.iload_n 1, 1) := by decide +kernel
theorem dX6_gather_49 : decode cX6_gather 49 = .ok (.iconst 1, 1) := by decide +kernel
theorem dX6_gather_50 : decode cX6_gather 50 = .ok (.invokevirtual 33, 3) := by decide +kernel
theorem dX6_gather_53 : decode cX6_gather 53 = .ok (.if_icmp .ge 116, 3) := by decide +kernel
theorem dX6_gather_56 : decode cX6_gather 56 = .ok (.aload_n 0, 1) := by decide +kernel
theorem dX6_gather_57 : decode cX6_gather 57 = .ok (.iload_n 1, 1) := by decide +kernel
theorem dX6_gather_58 : decode cX6_gather 58 = .ok (.iconst 2, 1) := by decide +kernel
theorem dX6_gather_59 : decode cX6_gather 59 = .ok (.iload 5, 2) := by decide +kernel
theorem dX6_gather_61 : decode cX6_gather 61 = .ok (.iadd, 1) := by decide +kernel
theorem dX6_gather_62 : decode cX6_gather 62 = .ok (.invokevirtual 33, 3) := by decide +kernel
theorem dX6_gather_65 : decode cX6_gather 65 = .ok (.iload_n 3, 1) := by decide +kernel
theorem dX6_gather_66 : decode cX6_gather 66 = .ok (.iadd, 1) := by decide +kernel
theorem dX6_gather_67 : decode cX6_gather 67 = .ok (.istore 6, 2) := by decide +kernel
theorem dX6_gather_69 : decode cX6_gather 69 = .ok (.iload 6, 2) := by decide +kernel
theorem dX6_gather_71 : decode cX6_gather 71 = .ok (.bipush 8, 2) := by decide +kernel
theorem dX6_gather_73 : decode cX6_gather 73 = .ok (.if_icmp .le 5, 3) := by decide +kernel
theorem dX6_gather_76 : decode cX6_gather 76 = .ok (.iconst 0, 1) := by decide +kernel
theorem dX6_gather_77 : decode cX6_gather 77 = .ok (.ireturn, 1) := by decide +kernel
theorem dX6_gather_78 : decode cX6_gather 78 = .ok (.aload_n 0, 1) := by decide +kernel
theorem dX6_gather_79 : decode cX6_gather 79 = .ok (.iload_n 1, 1) := by decide +kernel
theorem dX6_gather_80 : decode cX6_gather 80 = .ok (.bipush 6, 2) := by decide +kernel
theorem dX6_gather_82 : decode cX6_gather 82 = .ok (.iload 5, 2) := by decide +kernel
theorem dX6_gather_84 : decode cX6_gather 84 = .ok (.iadd, 1) := by decide +kernel
theorem dX6_gather_85 : decode cX6_gather 85 = .ok (.invokevirtual 33, 3) := by decide +kernel
theorem dX6_gather_88 : decode cX6_gather 88 = .ok (.iconst 2, 1) := by decide +kernel
theorem dX6_gather_89 : decode cX6_gather 89 = .ok (.iload_n 3, 1) := by decide +kernel
theorem dX6_gather_90 : decode cX6_gather 90 = .ok (.imul, 1) := by decide +kernel
theorem dX6_gather_91 : decode cX6_gather 91 = .ok (.ishl, 1) := by decide +kernel
theorem dX6_gather_92 : decode cX6_gather 92 = .ok (.iload 4, 2) := by decide +kernel
theorem dX6_gather_94 : decode cX6_gather 94 = .ok (.ior, 1) := by decide +kernel
theorem dX6_gather_95 : decode cX6_gather 95 = .ok (.istore 7, 2) := by decide +kernel
theorem dX6_gather_97 : decode cX6_gather 97 = .ok (.aload_n 0, 1) := by decide +kernel
theorem dX6_gather_98 : decode cX6_gather 98 = .ok (.bipush 25, 2) := by decide +kernel
theorem dX6_gather_100 : decode cX6_gather 100 = .ok (.iload 6, 2) := by decide +kernel
theorem dX6_gather_102 : decode cX6_gather 102 = .ok (.iload 7, 2) := by decide +kernel
theorem dX6_gather_104 : decode cX6_gather 104 = .ok (.invokevirtual 63, 3) := by decide +kernel
theorem dX6_gather_107 : decode cX6_gather 107 = .ok (.istore 8, 2) := by decide +kernel
theorem dX6_gather_109 : decode cX6_gather 109 = .ok (.iload 8, 2) := by decide +kernel
theorem dX6_gather_111 : decode cX6_gather 111 = .ok (.ifCond .ge 16, 3) := by decide +kernel
theorem dX6_gather_114 : decode cX6_gather 114 = .ok (.aload_n 0, 1) := by decide +kernel
theorem dX6_gather_115 : decode cX6_gather 115 = .ok (.bipush 25, 2) := by decide +kernel
theorem dX6_gather_117 : decode cX6_gather 117 = .ok (.iconst 1, 1) := by decide +kernel
theorem dX6_gather_118 : decode cX6_gather 118 = .ok (.invokevirtual 33, 3) := by decide +kernel
theorem dX6_gather_121 : decode cX6_gather 121 = .ok (.iconst 4, 1) := by decide +kernel
theorem dX6_gather_122 : decode cX6_gather 122 = .ok (.if_icmp .ne 5, 3) := by decide +kernel
theorem dX6_gather_125 : decode cX6_gather 125 = .ok (.iconst 0, 1) := by decide +kernel
theorem dX6_gather_126 : decode cX6_gather 126 = .ok (.ireturn, 1) := by decide +kernel
theorem dX6_gather_127 : decode cX6_gather 127 = .ok (.iload 8, 2) := by decide +kernel
theorem dX6_gather_129 : decode cX6_gather 129 = .ok (.ifCond .ge 13, 3) := by decide +kernel
theorem dX6_gather_132 : decode cX6_gather 132 = .ok (.aload_n 0, 1) := by decide +kernel
theorem dX6_gather_133 : decode cX6_gather 133 = .ok (.bipush 25, 2) := by decide +kernel
theorem dX6_gather_135 : decode cX6_gather 135 = .ok (.iload 6, 2) := by decide +kernel
theorem dX6_gather_137 : decode cX6_gather 137 = .ok (.iload 7, 2) := by decide +kernel
theorem dX6_gather_139 : decode cX6_gather 139 = .ok (.invokevirtual 60, 3) := by decide +kernel
theorem dX6_gather_142 : decode cX6_gather 142 = .ok (.aload_n 0, 1) := by decide +kernel
theorem dX6_gather_143 : decode cX6_gather 143 = .ok (.getfield 22, 3) := by decide +kernel
theorem dX6_gather_146 : decode cX6_gather 146 = .ok (.iconst 4, 1) := by decide +kernel
theorem dX6_gather_147 : decode cX6_gather 147 = .ok (.iload_n 2, 1) := by decide +kernel
theorem dX6_gather_148 : decode cX6_gather 148 = .ok (.imul, 1) := by decide +kernel
theorem dX6_gather_149 : decode cX6_gather 149 = .ok (.iload 5, 2) := by decide +kernel
theorem dX6_gather_151 : decode cX6_gather 151 = .ok (.iadd, 1) := by decide +kernel
theorem dX6_gather_152 : decode cX6_gather 152 = .ok (.aload_n 0, 1) := by decide +kernel
theorem dX6_gather_153 : decode cX6_gather 153 = .ok (.bipush 25, 2) := by decide +kernel
theorem dX6_gather_155 : decode cX6_gather 155 = .ok (.iload 6, 2) := by decide +kernel
theorem dX6_gather_157 : decode cX6_gather 157 = .ok (.iload 7, 2) := by decide +kernel
theorem dX6_gather_159 : decode cX6_gather 159 = .ok (.invokevirtual 63, 3) := by decide +kernel
theorem dX6_gather_162 : decode cX6_gather 162 = .ok (.iastore, 1) := by decide +kernel
theorem dX6_gather_163 : decode cX6_gather 163 = .ok (.iinc 5 1, 3) := by decide +kernel
theorem dX6_gather_166 : decode cX6_gather 166 = .ok (.goto (-121), 3) := by decide +kernel
theorem dX6_gather_169 : decode cX6_gather 169 = .ok (.iconst 1, 1) := by decide +kernel
theorem dX6_gather_170 : decode cX6_gather 170 = .ok (.ireturn, 1) := by decide +kernel
theorem dX6_back_0 : decode cX6_back 0 = .ok (.iconst 0, 1) := by decide +kernel
theorem dX6_back_1 : decode cX6_back 1 = .ok (.istore 4, 2) := by decide +kernel
theorem dX6_back_3 : decode cX6_back 3 = .ok (.iload 4, 2) := by decide +kernel
theorem dX6_back_5 : decode cX6_back 5 = .ok (.aload_n 0, 1) := by decide +kernel
theorem dX6_back_6 : decode cX6_back 6 = .ok (.iload_n 1, 1) := by decide +kernel
theorem dX6_back_7 : decode cX6_back 7 = .ok (.iconst 1, 1) := by decide +kernel
theorem dX6_back_8 : decode cX6_back 8 = .ok (.invokevirtual 33, 3) := by decide +kernel
theorem dX6_back_11 : decode cX6_back 11 = .ok (.if_icmp .ge 27, 3) := by decide +kernel
theorem dX6_back_14 : decode cX6_back 14 = .ok (.aload_n 0, 1) := by decide +kernel
theorem dX6_back_15 : decode cX6_back 15 = .ok (.getfield 22, 3) := by decide +kernel
theorem dX6_back_18 : decode cX6_back 18 = .ok (.iconst 4, 1) := by decide +kernel
theorem dX6_back_19 : decode cX6_back 19 = .ok (.iload_n 2, 1) := by decide +kernel
theorem dX6_back_20 : decode cX6_back 20 = .ok (.imul, 1) := by decide +kernel
theorem dX6_back_21 : decode cX6_back 21 = .ok (.iload 4, 2) := by decide +kernel
theorem dX6_back_23 : decode cX6_back 23 = .ok (.iadd, 1) := by decide +kernel
theorem dX6_back_24 : decode cX6_back 24 = .ok (.iaload, 1) := by decide +kernel
theorem dX6_back_25 : decode cX6_back 25 = .ok (.iload_n 3, 1) := by decide +kernel
theorem dX6_back_26 : decode cX6_back 26 = .ok (.if_icmp .ne 6, 3) := by decide +kernel
theorem dX6_back_29 : decode cX6_back 29 = .ok (.iload 4, 2) := by decide +kernel
theorem dX6_back_31 : decode cX6_back 31 = .ok (.ireturn, 1) := by decide +kernel
theorem dX6_back_32 : decode cX6_back 32 = .ok (.iinc 4 1, 3) := by decide +kernel
theorem dX6_back_35 : decode cX6_back 35 = .ok (.goto (-32), 3) := by decide +kernel
theorem dX6_back_38 : decode cX6_back 38 = .ok (.iconst (-1), 1) := by decide +kernel
theorem dX6_back_39 : decode cX6_back 39 = .ok (.ireturn, 1) := by decide +kernel
theorem dX6_likely_0 : decode cX6_likely 0 = .ok (.aload_n 0, 1) := by decide +kernel
theorem dX6_likely_1 : decode cX6_likely 1 = .ok (.iload_n 1, 1) := by decide +kernel
theorem dX6_likely_2 : decode cX6_likely 2 = .ok (.iload_n 2, 1) := by decide +kernel
theorem dX6_likely_3 : decode cX6_likely 3 = .ok (.iload 4, 2) := by decide +kernel
theorem dX6_likely_5 : decode cX6_likely 5 = .ok (.invokevirtual 108, 3) := by decide +kernel
theorem dX6_likely_8 : decode cX6_likely 8 = .ok (.istore 6, 2) := by decide +kernel
theorem dX6_likely_10 : decode cX6_likely 10 = .ok (.aload_n 0, 1) := by decide +kernel
theorem dX6_likely_11 : decode cX6_likely 11 = .ok (.iload_n 1, 1) := by decide +kernel
theorem dX6_likely_12 : decode cX6_likely 12 = .ok (.iload_n 2, 1) := by decide +kernel
theorem dX6_likely_13 : decode cX6_likely 13 = .ok (.iload 5, 2) := by decide +kernel
theorem dX6_likely_15 : decode cX6_likely 15 = .ok (.invokevirtual 108, 3) := by decide +kernel
theorem dX6_likely_18 : decode cX6_likely 18 = .ok (.istore 7, 2) := by decide +kernel
theorem dX6_likely_20 : decode cX6_likely 20 = .ok (.iload 6, 2) := by decide +kernel
theorem dX6_likely_22 : decode cX6_likely 22 = .ok (.ifCond .lt 8, 3) := by decide +kernel
theorem dX6_likely_25 : decode cX6_likely 25 = .ok (.iload 7, 2) := by decide +kernel
theorem dX6_likely_27 : decode cX6_likely 27 = .ok (.ifCond .ge 9, 3) := by decide +kernel
theorem dX6_likely_30 : decode cX6_likely 30 = .ok (.sipush 999, 3) := by decide +kernel
theorem dX6_likely_33 : decode cX6_likely 33 = .ok (.goto 23, 3) := by decide +kernel
theorem dX6_likely_36 : decode cX6_likely 36 = .ok (.aload_n 0, 1) := by decide +kernel
theorem dX6_likely_37 : decode cX6_likely 37 = .ok (.iload_n 1, 1) := by decide +kernel
theorem dX6_likely_38 : decode cX6_likely 38 = .ok (.bipush 21, 2) := by decide +kernel
theorem dX6_likely_40 : decode cX6_likely 40 = .ok (.bipush 10, 2) := by decide +kernel
theorem dX6_likely_42 : decode cX6_likely 42 = .ok (.iload_n 3, 1) := by decide +kernel
theorem dX6_likely_43 : decode cX6_likely 43 = .ok (.imul, 1) := by decide +kernel
theorem dX6_likely_44 : decode cX6_likely 44 = .ok (.iadd, 1) := by decide +kernel
theorem dX6_likely_45 : decode cX6_likely 45 = .ok (.iload 6, 2) := by decide +kernel
theorem dX6_likely_47 : decode cX6_likely 47 = .ok (.iload 7, 2) := by decide +kernel
theorem dX6_likely_49 : decode cX6_likely 49 = .ok (.invokestatic 102, 3) := by decide +kernel
theorem dX6_likely_52 : decode cX6_likely 52 = .ok (.iadd, 1) := by decide +kernel
theorem dX6_likely_53 : decode cX6_likely 53 = .ok (.invokevirtual 33, 3) := by decide +kernel
theorem dX6_likely_56 : decode cX6_likely 56 = .ok (.ireturn, 1) := by decide +kernel
theorem dX6_joinSample_0 : decode cX6_joinSample 0 = .ok (.iconst 0, 1) := by decide +kernel
theorem dX6_joinSample_1 : decode cX6_joinSample 1 = .ok (.istore 4, 2) := by decide +kernel
theorem dX6_joinSample_3 : decode cX6_joinSample 3 = .ok (.iload 4, 2) := by decide +kernel
theorem dX6_joinSample_5 : decode cX6_joinSample 5 = .ok (.iconst 2, 1) := by decide +kernel
theorem dX6_joinSample_6 : decode cX6_joinSample 6 = .ok (.if_icmp .ge 103, 3) := by decide +kernel
theorem dX6_joinSample_9 : decode cX6_joinSample 9 = .ok (.aload_n 0, 1) := by decide +kernel
theorem dX6_joinSample_10 : decode cX6_joinSample 10 = .ok (.iload_n 1, 1) := by decide +kernel
theorem dX6_joinSample_11 : decode cX6_joinSample 11 = .ok (.bipush 15, 2) := by decide +kernel
theorem dX6_joinSample_13 : decode cX6_joinSample 13 = .ok (.iconst 3, 1) := by decide +kernel
theorem dX6_joinSample_14 : decode cX6_joinSample 14 = .ok (.iload_n 3, 1) := by decide +kernel
theorem dX6_joinSample_15 : decode cX6_joinSample 15 = .ok (.imul, 1) := by decide +kernel
theorem dX6_joinSample_16 : decode cX6_joinSample 16 = .ok (.iadd, 1) := by decide +kernel
theorem dX6_joinSample_17 : decode cX6_joinSample 17 = .ok (.iload 4, 2) := by decide +kernel
theorem dX6_joinSample_19 : decode cX6_joinSample 19 = .ok (.iadd, 1) := by decide +kernel
theorem dX6_joinSample_20 : decode cX6_joinSample 20 = .ok (.invokevirtual 33, 3) := by decide +kernel
theorem dX6_joinSample_23 : decode cX6_joinSample 23 = .ok (.istore 5, 2) := by decide +kernel
theorem dX6_joinSample_25 : decode cX6_joinSample 25 = .ok (.aload_n 0, 1) := by decide +kernel
theorem dX6_joinSample_26 : decode cX6_joinSample 26 = .ok (.iload_n 2, 1) := by decide +kernel
theorem dX6_joinSample_27 : decode cX6_joinSample 27 = .ok (.bipush 15, 2) := by decide +kernel
theorem dX6_joinSample_29 : decode cX6_joinSample 29 = .ok (.iconst 3, 1) := by decide +kernel
theorem dX6_joinSample_30 : decode cX6_joinSample 30 = .ok (.iload_n 3, 1) := by decide +kernel
theorem dX6_joinSample_31 : decode cX6_joinSample 31 = .ok (.imul, 1) := by decide +kernel
theorem dX6_joinSample_32 : decode cX6_joinSample 32 = .ok (.iadd, 1) := by decide +kernel
theorem dX6_joinSample_33 : decode cX6_joinSample 33 = .ok (.iload 4, 2) := by decide +kernel
theorem dX6_joinSample_35 : decode cX6_joinSample 35 = .ok (.iadd, 1) := by decide +kernel
theorem dX6_joinSample_36 : decode cX6_joinSample 36 = .ok (.invokevirtual 33, 3) := by decide +kernel
theorem dX6_joinSample_39 : decode cX6_joinSample 39 = .ok (.istore 6, 2) := by decide +kernel
theorem dX6_joinSample_41 : decode cX6_joinSample 41 = .ok (.aload_n 0, 1) := by decide +kernel
theorem dX6_joinSample_42 : decode cX6_joinSample 42 = .ok (.bipush 25, 2) := by decide +kernel
theorem dX6_joinSample_44 : decode cX6_joinSample 44 = .ok (.bipush 15, 2) := by decide +kernel
theorem dX6_joinSample_46 : decode cX6_joinSample 46 = .ok (.iconst 3, 1) := by decide +kernel
theorem dX6_joinSample_47 : decode cX6_joinSample 47 = .ok (.iload_n 3, 1) := by decide +kernel
theorem dX6_joinSample_48 : decode cX6_joinSample 48 = .ok (.imul, 1) := by decide +kernel
theorem dX6_joinSample_49 : decode cX6_joinSample 49 = .ok (.iadd, 1) := by decide +kernel
theorem dX6_joinSample_50 : decode cX6_joinSample 50 = .ok (.iload 4, 2) := by decide +kernel
theorem dX6_joinSample_52 : decode cX6_joinSample 52 = .ok (.iadd, 1) := by decide +kernel
theorem dX6_joinSample_53 : decode cX6_joinSample 53 = .ok (.iload 5, 2) := by decide +kernel
theorem dX6_joinSample_55 : decode cX6_joinSample 55 = .ok (.ifCond .le 13, 3) := by decide +kernel
theorem dX6_joinSample_58 : decode cX6_joinSample 58 = .ok (.aload_n 0, 1) := by decide +kernel
theorem dX6_joinSample_59 : decode cX6_joinSample 59 = .ok (.getfield 22, 3) := by decide +kernel
theorem dX6_joinSample_62 : decode cX6_joinSample 62 = .ok (.iload 5, 2) := by decide +kernel
theorem dX6_joinSample_64 : decode cX6_joinSample 64 = .ok (.iaload, 1) := by decide +kernel
theorem dX6_joinSample_65 : decode cX6_joinSample 65 = .ok (.goto 35, 3) := by decide +kernel
theorem dX6_joinSample_68 : decode cX6_joinSample 68 = .ok (.iload 6, 2) := by decide +kernel
theorem dX6_joinSample_70 : decode cX6_joinSample 70 = .ok (.ifCond .le 15, 3) := by decide +kernel
theorem dX6_joinSample_73 : decode cX6_joinSample 73 = .ok (.aload_n 0, 1) := by decide +kernel
theorem dX6_joinSample_74 : decode cX6_joinSample 74 = .ok (.getfield 22, 3) := by decide +kernel
theorem dX6_joinSample_77 : decode cX6_joinSample 77 = .ok (.iconst 4, 1) := by decide +kernel
theorem dX6_joinSample_78 : decode cX6_joinSample 78 = .ok (.iload 6, 2) := by decide +kernel
theorem dX6_joinSample_80 : decode cX6_joinSample 80 = .ok (.iadd, 1) := by decide +kernel
theorem dX6_joinSample_81 : decode cX6_joinSample 81 = .ok (.iaload, 1) := by decide +kernel
theorem dX6_joinSample_82 : decode cX6_joinSample 82 = .ok (.goto 18, 3) := by decide +kernel
theorem dX6_joinSample_85 : decode cX6_joinSample 85 = .ok (.iload 5, 2) := by decide +kernel
theorem dX6_joinSample_87 : decode cX6_joinSample 87 = .ok (.ifCond .ge 12, 3) := by decide +kernel
theorem dX6_joinSample_90 : decode cX6_joinSample 90 = .ok (.iload 6, 2) := by decide +kernel
theorem dX6_joinSample_92 : decode cX6_joinSample 92 = .ok (.ifCond .ge 7, 3) := by decide +kernel
theorem dX6_joinSample_95 : decode cX6_joinSample 95 = .ok (.iconst (-1), 1) := by decide +kernel
theorem dX6_joinSample_96 : decode cX6_joinSample 96 = .ok (.goto 4, 3) := by decide +kernel
theorem dX6_joinSample_99 : decode cX6_joinSample 99 = .ok (.iconst 0, 1) := by decide +kernel
theorem dX6_joinSample_100 : decode cX6_joinSample 100 = .ok (.invokevirtual 29, 3) := by decide +kernel
theorem dX6_joinSample_103 : decode cX6_joinSample 103 = .ok (.iinc 4 1, 3) := by decide +kernel
theorem dX6_joinSample_106 : decode cX6_joinSample 106 = .ok (.goto (-103), 3) := by decide +kernel
theorem dX6_joinSample_109 : decode cX6_joinSample 109 = .ok (.aload_n 0, 1) := by decide +kernel
theorem dX6_joinSample_110 : decode cX6_joinSample 110 = .ok (.bipush 25, 2) := by decide +kernel
theorem dX6_joinSample_112 : decode cX6_joinSample 112 = .ok (.bipush 15, 2) := by decide +kernel
theorem dX6_joinSample_114 : decode cX6_joinSample 114 = .ok (.iconst 3, 1) := by decide +kernel
theorem dX6_joinSample_115 : decode cX6_joinSample 115 = .ok (.iload_n 3, 1) := by decide +kernel
theorem dX6_joinSample_116 : decode cX6_joinSample 116 = .ok (.imul, 1) := by decide +kernel
theorem dX6_joinSample_117 : decode cX6_joinSample 117 = .ok (.iadd, 1) := by decide +kernel
theorem dX6_joinSample_118 : decode cX6_joinSample 118 = .ok (.iconst 2, 1) := by decide +kernel
theorem dX6_joinSample_119 : decode cX6_joinSample 119 = .ok (.iadd, 1) := by decide +kernel
theorem dX6_joinSample_120 : decode cX6_joinSample 120 = .ok (.aload_n 0, 1) := by decide +kernel
theorem dX6_joinSample_121 : decode cX6_joinSample 121 = .ok (.iload_n 1, 1) := by decide +kernel
theorem dX6_joinSample_122 : decode cX6_joinSample 122 = .ok (.bipush 15, 2) := by decide +kernel
theorem dX6_joinSample_124 : decode cX6_joinSample 124 = .ok (.iconst 3, 1) := by decide +kernel
theorem dX6_joinSample_125 : decode cX6_joinSample 125 = .ok (.iload_n 3, 1) := by decide +kernel
theorem dX6_joinSample_126 : decode cX6_joinSample 126 = .ok (.imul, 1) := by decide +kernel
theorem dX6_joinSample_127 : decode cX6_joinSample 127 = .ok (.iadd, 1) := by decide +kernel
theorem dX6_joinSample_128 : decode cX6_joinSample 128 = .ok (.iconst 2, 1) := by decide +kernel
theorem dX6_joinSample_129 : decode cX6_joinSample 129 = .ok (.iadd, 1) := by decide +kernel
theorem dX6_joinSample_130 : decode cX6_joinSample 130 = .ok (.invokevirtual 33, 3) := by decide +kernel
theorem dX6_joinSample_133 : decode cX6_joinSample 133 = .ok (.aload_n 0, 1) := by decide +kernel
theorem dX6_joinSample_134 : decode cX6_joinSample 134 = .ok (.iload_n 2, 1) := by decide +kernel
theorem dX6_joinSample_135 : decode cX6_joinSample 135 = .ok (.bipush 15, 2) := by decide +kernel
theorem dX6_joinSample_137 : decode cX6_joinSample 137 = .ok (.iconst 3, 1) := by decide +kernel
theorem dX6_joinSample_138 : decode cX6_joinSample 138 = .ok (.iload_n 3, 1) := by decide +kernel
theorem dX6_joinSample_139 : decode cX6_joinSample 139 = .ok (.imul, 1) := by decide +kernel
theorem dX6_joinSample_140 : decode cX6_joinSample 140 = .ok (.iadd, 1) := by decide +kernel
theorem dX6_joinSample_141 : decode cX6_joinSample 141 = .ok (.iconst 2, 1) := by decide +kernel
theorem dX6_joinSample_142 : decode cX6_joinSample 142 = .ok (.iadd, 1) := by decide +kernel
theorem dX6_joinSample_143 : decode cX6_joinSample 143 = .ok (.invokevirtual 33, 3) := by decide +kernel
theorem dX6_joinSample_146 : decode cX6_joinSample 146 = .ok (.imul, 1) := by decide +kernel
theorem dX6_joinSample_147 : decode cX6_joinSample 147 = .ok (.invokevirtual 29, 3) := by decide +kernel
theorem dX6_joinSample_150 : decode cX6_joinSample 150 = .ok (.iconst 0, 1) := by decide +kernel
theorem dX6_joinSample_151 : decode cX6_joinSample 151 = .ok (.istore 4, 2) := by decide +kernel
theorem dX6_joinSample_153 : decode cX6_joinSample 153 = .ok (.iload 4, 2) := by decide +kernel
theorem dX6_joinSample_155 : decode cX6_joinSample 155 = .ok (.aload_n 0, 1) := by decide +kernel
theorem dX6_joinSample_156 : decode cX6_joinSample 156 = .ok (.bipush 25, 2) := by decide +kernel
theorem dX6_joinSample_158 : decode cX6_joinSample 158 = .ok (.iconst 1, 1) := by decide +kernel
theorem dX6_joinSample_159 : decode cX6_joinSample 159 = .ok (.invokevirtual 33, 3) := by decide +kernel
theorem dX6_joinSample_162 : decode cX6_joinSample 162 = .ok (.if_icmp .ge 86, 3) := by decide +kernel
theorem dX6_joinSample_165 : decode cX6_joinSample 165 = .ok (.iconst 0, 1) := by decide +kernel
theorem dX6_joinSample_166 : decode cX6_joinSample 166 = .ok (.istore 5, 2) := by decide +kernel
theorem dX6_joinSample_168 : decode cX6_joinSample 168 = .ok (.iload 5, 2) := by decide +kernel
theorem dX6_joinSample_170 : decode cX6_joinSample 170 = .ok (.iload 4, 2) := by decide +kernel
theorem dX6_joinSample_172 : decode cX6_joinSample 172 = .ok (.if_icmp .gt 70, 3) := by decide +kernel
theorem dX6_joinSample_175 : decode cX6_joinSample 175 = .ok (.aload_n 0, 1) := by decide +kernel
theorem dX6_joinSample_176 : decode cX6_joinSample 176 = .ok (.iload_n 1, 1) := by decide +kernel
theorem dX6_joinSample_177 : decode cX6_joinSample 177 = .ok (.iconst 0, 1) := by decide +kernel
theorem dX6_joinSample_178 : decode cX6_joinSample 178 = .ok (.iload_n 3, 1) := by decide +kernel
theorem dX6_joinSample_179 : decode cX6_joinSample 179 = .ok (.iload 5, 2) := by decide +kernel
theorem dX6_joinSample_181 : decode cX6_joinSample 181 = .ok (.iload 4, 2) := by decide +kernel
theorem dX6_joinSample_183 : decode cX6_joinSample 183 = .ok (.invokevirtual 111, 3) := by decide +kernel
theorem dX6_joinSample_186 : decode cX6_joinSample 186 = .ok (.istore 6, 2) := by decide +kernel
theorem dX6_joinSample_188 : decode cX6_joinSample 188 = .ok (.aload_n 0, 1) := by decide +kernel
theorem dX6_joinSample_189 : decode cX6_joinSample 189 = .ok (.iload_n 2, 1) := by decide +kernel
theorem dX6_joinSample_190 : decode cX6_joinSample 190 = .ok (.iconst 1, 1) := by decide +kernel
theorem dX6_joinSample_191 : decode cX6_joinSample 191 = .ok (.iload_n 3, 1) := by decide +kernel
theorem dX6_joinSample_192 : decode cX6_joinSample 192 = .ok (.iload 5, 2) := by decide +kernel
theorem dX6_joinSample_194 : decode cX6_joinSample 194 = .ok (.iload 4, 2) := by decide +kernel
theorem dX6_joinSample_196 : decode cX6_joinSample 196 = .ok (.invokevirtual 111, 3) := by decide +kernel
theorem dX6_joinSample_199 : decode cX6_joinSample 199 = .ok (.istore 7, 2) := by decide +kernel
theorem dX6_joinSample_201 : decode cX6_joinSample 201 = .ok (.aload_n 0, 1) := by decide +kernel
theorem dX6_joinSample_202 : decode cX6_joinSample 202 = .ok (.bipush 25, 2) := by decide +kernel
theorem dX6_joinSample_204 : decode cX6_joinSample 204 = .ok (.bipush 21, 2) := by decide +kernel
theorem dX6_joinSample_206 : decode cX6_joinSample 206 = .ok (.bipush 10, 2) := by decide +kernel
theorem dX6_joinSample_208 : decode cX6_joinSample 208 = .ok (.iload_n 3, 1) := by decide +kernel
theorem dX6_joinSample_209 : decode cX6_joinSample 209 = .ok (.imul, 1) := by decide +kernel
theorem dX6_joinSample_210 : decode cX6_joinSample 210 = .ok (.iadd, 1) := by decide +kernel
theorem dX6_joinSample_211 : decode cX6_joinSample 211 = .ok (.iload 5, 2) := by decide +kernel
theorem dX6_joinSample_213 : decode cX6_joinSample 213 = .ok (.iload 4, 2) := by decide +kernel
theorem dX6_joinSample_215 : decode cX6_joinSample 215 = .ok (.invokestatic 102, 3) := by decide +kernel
theorem dX6_joinSample_218 : decode cX6_joinSample 218 = .ok (.iadd, 1) := by decide +kernel
theorem dX6_joinSample_219 : decode cX6_joinSample 219 = .ok (.iload 6, 2) := by decide +kernel
theorem dX6_joinSample_221 : decode cX6_joinSample 221 = .ok (.iload 7, 2) := by decide +kernel
theorem dX6_joinSample_223 : decode cX6_joinSample 223 = .ok (.if_icmp .ge 8, 3) := by decide +kernel
theorem dX6_joinSample_226 : decode cX6_joinSample 226 = .ok (.iload 6, 2) := by decide +kernel
theorem dX6_joinSample_228 : decode cX6_joinSample 228 = .ok (.goto 5, 3) := by decide +kernel
theorem dX6_joinSample_231 : decode cX6_joinSample 231 = .ok (.iload 7, 2) := by decide +kernel
theorem dX6_joinSample_233 : decode cX6_joinSample 233 = .ok (.invokevirtual 29, 3) := by decide +kernel
theorem dX6_joinSample_236 : decode cX6_joinSample 236 = .ok (.iinc 5 1, 3) := by decide +kernel
theorem dX6_joinSample_239 : decode cX6_joinSample 239 = .ok (.goto (-71), 3) := by decide +kernel
theorem dX6_joinSample_242 : decode cX6_joinSample 242 = .ok (.iinc 4 1, 3) := by decide +kernel
theorem dX6_joinSample_245 : decode cX6_joinSample 245 = .ok (.goto (-92), 3) := by decide +kernel
theorem dX6_joinSample_248 : decode cX6_joinSample 248 = .ok (.return_, 1) := by decide +kernel
theorem dX6_join_0 : decode cX6_join 0 = .ok (.iload_n 1, 1) := by decide +kernel
theorem dX6_join_1 : decode cX6_join 1 = .ok (.aload_n 0, 1) := by decide +kernel
theorem dX6_join_2 : decode cX6_join 2 = .ok (.getfield 44, 3) := by decide +kernel
theorem dX6_join_5 : decode cX6_join 5 = .ok (.invokestatic 67, 3) := by decide +kernel
theorem dX6_join_8 : decode cX6_join 8 = .ok (.istore_n 2, 1) := by decide +kernel
theorem dX6_join_9 : decode cX6_join 9 = .ok (.iload_n 2, 1) := by decide +kernel
theorem dX6_join_10 : decode cX6_join 10 = .ok (.ifCond .ne 34, 3) := by decide +kernel
theorem dX6_join_13 : decode cX6_join 13 = .ok (.iload_n 1, 1) := by decide +kernel
theorem dX6_join_14 : decode cX6_join 14 = .ok (.iconst 1, 1) := by decide +kernel
theorem dX6_join_15 : decode cX6_join 15 = .ok (.iadd, 1) := by decide +kernel
theorem dX6_join_16 : decode cX6_join 16 = .ok (.aload_n 0, 1) := by decide +kernel
theorem dX6_join_17 : decode cX6_join 17 = .ok (.getfield 44, 3) := by decide +kernel
theorem dX6_join_20 : decode cX6_join 20 = .ok (.if_icmp .eq 20, 3) := by decide +kernel
theorem dX6_join_23 : decode cX6_join 23 = .ok (.aload_n 0, 1) := by decide +kernel
theorem dX6_join_24 : decode cX6_join 24 = .ok (.iload_n 1, 1) := by decide +kernel
theorem dX6_join_25 : decode cX6_join 25 = .ok (.iconst 1, 1) := by decide +kernel
theorem dX6_join_26 : decode cX6_join 26 = .ok (.iadd, 1) := by decide +kernel
theorem dX6_join_27 : decode cX6_join 27 = .ok (.iconst 0, 1) := by decide +kernel
theorem dX6_join_28 : decode cX6_join 28 = .ok (.invokevirtual 33, 3) := by decide +kernel
theorem dX6_join_31 : decode cX6_join 31 = .ok (.aload_n 0, 1) := by decide +kernel
theorem dX6_join_32 : decode cX6_join 32 = .ok (.iload_n 1, 1) := by decide +kernel
theorem dX6_join_33 : decode cX6_join 33 = .ok (.iconst 0, 1) := by decide +kernel
theorem dX6_join_34 : decode cX6_join 34 = .ok (.invokevirtual 33, 3) := by decide +kernel
theorem dX6_join_37 : decode cX6_join 37 = .ok (.if_icmp .eq 7, 3) := by decide +kernel
theorem dX6_join_40 : decode cX6_join 40 = .ok (.iconst 1, 1) := by decide +kernel
theorem dX6_join_41 : decode cX6_join 41 = .ok (.goto 4, 3) := by decide +kernel
theorem dX6_join_44 : decode cX6_join 44 = .ok (.iconst 0, 1) := by decide +kernel
theorem dX6_join_45 : decode cX6_join 45 = .ok (.istore_n 3, 1) := by decide +kernel
theorem dX6_join_46 : decode cX6_join 46 = .ok (.aload_n 0, 1) := by decide +kernel
theorem dX6_join_47 : decode cX6_join 47 = .ok (.iload_n 2, 1) := by decide +kernel
theorem dX6_join_48 : decode cX6_join 48 = .ok (.iload_n 3, 1) := by decide +kernel
theorem dX6_join_49 : decode cX6_join 49 = .ok (.invokevirtual 47, 3) := by decide +kernel
theorem dX6_join_52 : decode cX6_join 52 = .ok (.ifCond .eq 4, 3) := by decide +kernel
theorem dX6_join_55 : decode cX6_join 55 = .ok (.return_, 1) := by decide +kernel
theorem dX6_join_56 : decode cX6_join 56 = .ok (.iload_n 1, 1) := by decide +kernel
theorem dX6_join_57 : decode cX6_join 57 = .ok (.istore 4, 2) := by decide +kernel
theorem dX6_join_59 : decode cX6_join 59 = .ok (.iload_n 1, 1) := by decide +kernel
theorem dX6_join_60 : decode cX6_join 60 = .ok (.iconst 1, 1) := by decide +kernel
theorem dX6_join_61 : decode cX6_join 61 = .ok (.iadd, 1) := by decide +kernel
theorem dX6_join_62 : decode cX6_join 62 = .ok (.istore 5, 2) := by decide +kernel
theorem dX6_join_64 : decode cX6_join 64 = .ok (.aload_n 0, 1) := by decide +kernel
theorem dX6_join_65 : decode cX6_join 65 = .ok (.iload 5, 2) := by decide +kernel
theorem dX6_join_67 : decode cX6_join 67 = .ok (.iconst 2, 1) := by decide +kernel
theorem dX6_join_68 : decode cX6_join 68 = .ok (.invokevirtual 33, 3) := by decide +kernel
theorem dX6_join_71 : decode cX6_join 71 = .ok (.aload_n 0, 1) := by decide +kernel
theorem dX6_join_72 : decode cX6_join 72 = .ok (.iload 4, 2) := by decide +kernel
theorem dX6_join_74 : decode cX6_join 74 = .ok (.iconst 2, 1) := by decide +kernel
theorem dX6_join_75 : decode cX6_join 75 = .ok (.invokevirtual 33, 3) := by decide +kernel
theorem dX6_join_78 : decode cX6_join 78 = .ok (.if_icmp .le 8, 3) := by decide +kernel
theorem dX6_join_81 : decode cX6_join 81 = .ok (.iload 5, 2) := by decide +kernel
theorem dX6_join_83 : decode cX6_join 83 = .ok (.goto 5, 3) := by decide +kernel
theorem dX6_join_86 : decode cX6_join 86 = .ok (.iload 4, 2) := by decide +kernel
theorem dX6_join_88 : decode cX6_join 88 = .ok (.istore 6, 2) := by decide +kernel
theorem dX6_join_90 : decode cX6_join 90 = .ok (.aload_n 0, 1) := by decide +kernel
theorem dX6_join_91 : decode cX6_join 91 = .ok (.bipush 25, 2) := by decide +kernel
theorem dX6_join_93 : decode cX6_join 93 = .ok (.aload_n 0, 1) := by decide +kernel
theorem dX6_join_94 : decode cX6_join 94 = .ok (.iload 4, 2) := by decide +kernel
theorem dX6_join_96 : decode cX6_join 96 = .ok (.iconst 0, 1) := by decide +kernel
theorem dX6_join_97 : decode cX6_join 97 = .ok (.invokevirtual 33, 3) := by decide +kernel
theorem dX6_join_100 : decode cX6_join 100 = .ok (.invokevirtual 53, 3) := by decide +kernel
theorem dX6_join_103 : decode cX6_join 103 = .ok (.aload_n 0, 1) := by decide +kernel
theorem dX6_join_104 : decode cX6_join 104 = .ok (.bipush 25, 2) := by decide +kernel
theorem dX6_join_106 : decode cX6_join 106 = .ok (.aload_n 0, 1) := by decide +kernel
theorem dX6_join_107 : decode cX6_join 107 = .ok (.iload 6, 2) := by decide +kernel
theorem dX6_join_109 : decode cX6_join 109 = .ok (.iconst 2, 1) := by decide +kernel
theorem dX6_join_110 : decode cX6_join 110 = .ok (.invokevirtual 33, 3) := by decide +kernel
theorem dX6_join_113 : decode cX6_join 113 = .ok (.aload_n 0, 1) := by decide +kernel
theorem dX6_join_114 : decode cX6_join 114 = .ok (.iload 6, 2) := by decide +kernel
theorem dX6_join_116 : decode cX6_join 116 = .ok (.bipush 6, 2) := by decide +kernel
theorem dX6_join_118 : decode cX6_join 118 = .ok (.invokevirtual 33, 3) := by decide +kernel
theorem dX6_join_121 : decode cX6_join 121 = .ok (.invokevirtual 60, 3) := by decide +kernel
theorem dX6_join_124 : decode cX6_join 124 = .ok (.aload_n 0, 1) := by decide +kernel
theorem dX6_join_125 : decode cX6_join 125 = .ok (.iload 4, 2) := by decide +kernel
theorem dX6_join_127 : decode cX6_join 127 = .ok (.iconst 0, 1) := by decide +kernel
theorem dX6_join_128 : decode cX6_join 128 = .ok (.invokevirtual 115, 3) := by decide +kernel
theorem dX6_join_131 : decode cX6_join 131 = .ok (.ifCond .eq 17, 3) := by decide +kernel
theorem dX6_join_134 : decode cX6_join 134 = .ok (.aload_n 0, 1) := by decide +kernel
theorem dX6_join_135 : decode cX6_join 135 = .ok (.iload 5, 2) := by decide +kernel
theorem dX6_join_137 : decode cX6_join 137 = .ok (.iconst 1, 1) := by decide +kernel
theorem dX6_join_138 : decode cX6_join 138 = .ok (.invokevirtual 115, 3) := by decide +kernel
theorem dX6_join_141 : decode cX6_join 141 = .ok (.ifCond .eq 7, 3) := by decide +kernel
theorem dX6_join_144 : decode cX6_join 144 = .ok (.iconst 1, 1) := by decide +kernel
theorem dX6_join_145 : decode cX6_join 145 = .ok (.goto 4, 3) := by decide +kernel
theorem dX6_join_148 : decode cX6_join 148 = .ok (.iconst 0, 1) := by decide +kernel
theorem dX6_join_149 : decode cX6_join 149 = .ok (.istore 7, 2) := by decide +kernel
theorem dX6_join_151 : decode cX6_join 151 = .ok (.aload_n 0, 1) := by decide +kernel
theorem dX6_join_152 : decode cX6_join 152 = .ok (.iload 7, 2) := by decide +kernel
theorem dX6_join_154 : decode cX6_join 154 = .ok (.ifCond .eq 7, 3) := by decide +kernel
theorem dX6_join_157 : decode cX6_join 157 = .ok (.iconst 0, 1) := by decide +kernel
theorem dX6_join_158 : decode cX6_join 158 = .ok (.goto 4, 3) := by decide +kernel
theorem dX6_join_161 : decode cX6_join 161 = .ok (.iconst 3, 1) := by decide +kernel
theorem dX6_join_162 : decode cX6_join 162 = .ok (.putfield 25, 3) := by decide +kernel
theorem dX6_join_165 : decode cX6_join 165 = .ok (.iload 7, 2) := by decide +kernel
theorem dX6_join_167 : decode cX6_join 167 = .ok (.ifCond .ne 4, 3) := by decide +kernel
theorem dX6_join_170 : decode cX6_join 170 = .ok (.return_, 1) := by decide +kernel
theorem dX6_join_171 : decode cX6_join 171 = .ok (.aload_n 0, 1) := by decide +kernel
theorem dX6_join_172 : decode cX6_join 172 = .ok (.bipush 25, 2) := by decide +kernel
theorem dX6_join_174 : decode cX6_join 174 = .ok (.bipush 10, 2) := by decide +kernel
theorem dX6_join_176 : decode cX6_join 176 = .ok (.aload_n 0, 1) := by decide +kernel
theorem dX6_join_177 : decode cX6_join 177 = .ok (.iload 4, 2) := by decide +kernel
theorem dX6_join_179 : decode cX6_join 179 = .ok (.bipush 10, 2) := by decide +kernel
theorem dX6_join_181 : decode cX6_join 181 = .ok (.invokevirtual 33, 3) := by decide +kernel
theorem dX6_join_184 : decode cX6_join 184 = .ok (.aload_n 0, 1) := by decide +kernel
theorem dX6_join_185 : decode cX6_join 185 = .ok (.iload 5, 2) := by decide +kernel
theorem dX6_join_187 : decode cX6_join 187 = .ok (.bipush 10, 2) := by decide +kernel
theorem dX6_join_189 : decode cX6_join 189 = .ok (.invokevirtual 33, 3) := by decide +kernel
theorem dX6_join_192 : decode cX6_join 192 = .ok (.if_icmp .le 14, 3) := by decide +kernel
theorem dX6_join_195 : decode cX6_join 195 = .ok (.aload_n 0, 1) := by decide +kernel
theorem dX6_join_196 : decode cX6_join 196 = .ok (.iload 4, 2) := by decide +kernel
theorem dX6_join_198 : decode cX6_join 198 = .ok (.bipush 10, 2) := by decide +kernel
theorem dX6_join_200 : decode cX6_join 200 = .ok (.invokevirtual 33, 3) := by decide +kernel
theorem dX6_join_203 : decode cX6_join 203 = .ok (.goto 11, 3) := by decide +kernel
theorem dX6_join_206 : decode cX6_join 206 = .ok (.aload_n 0, 1) := by decide +kernel
theorem dX6_join_207 : decode cX6_join 207 = .ok (.iload 5, 2) := by decide +kernel
theorem dX6_join_209 : decode cX6_join 209 = .ok (.bipush 10, 2) := by decide +kernel
theorem dX6_join_211 : decode cX6_join 211 = .ok (.invokevirtual 33, 3) := by decide +kernel
theorem dX6_join_214 : decode cX6_join 214 = .ok (.invokevirtual 29, 3) := by decide +kernel
theorem dX6_join_217 : decode cX6_join 217 = .ok (.iconst 0, 1) := by decide +kernel
theorem dX6_join_218 : decode cX6_join 218 = .ok (.istore 8, 2) := by decide +kernel
theorem dX6_join_220 : decode cX6_join 220 = .ok (.iload 8, 2) := by decide +kernel
theorem dX6_join_222 : decode cX6_join 222 = .ok (.aload_n 0, 1) := by decide +kernel
theorem dX6_join_223 : decode cX6_join 223 = .ok (.bipush 25, 2) := by decide +kernel
theorem dX6_join_225 : decode cX6_join 225 = .ok (.iconst 1, 1) := by decide +kernel
theorem dX6_join_226 : decode cX6_join 226 = .ok (.invokevirtual 33, 3) := by decide +kernel
theorem dX6_join_229 : decode cX6_join 229 = .ok (.if_icmp .ge 134, 3) := by decide +kernel
theorem dX6_join_232 : decode cX6_join 232 = .ok (.aload_n 0, 1) := by decide +kernel
theorem dX6_join_233 : decode cX6_join 233 = .ok (.iload 4, 2) := by decide +kernel
theorem dX6_join_235 : decode cX6_join 235 = .ok (.iconst 0, 1) := by decide +kernel
theorem dX6_join_236 : decode cX6_join 236 = .ok (.iload 8, 2) := by decide +kernel
theorem dX6_join_238 : decode cX6_join 238 = .ok (.invokevirtual 108, 3) := by decide +kernel
theorem dX6_join_241 : decode cX6_join 241 = .ok (.istore 9, 2) := by decide +kernel
theorem dX6_join_243 : decode cX6_join 243 = .ok (.aload_n 0, 1) := by decide +kernel
theorem dX6_join_244 : decode cX6_join 244 = .ok (.iload 5, 2) := by decide +kernel
theorem dX6_join_246 : decode cX6_join 246 = .ok (.iconst 1, 1) := by decide +kernel
theorem dX6_join_247 : decode cX6_join 247 = .ok (.iload 8, 2) := by decide +kernel
theorem dX6_join_249 : decode cX6_join 249 = .ok (.invokevirtual 108, 3) := by decide +kernel
theorem dX6_join_252 : decode cX6_join 252 = .ok (.istore 10, 2) := by decide +kernel
theorem dX6_join_254 : decode cX6_join 254 = .ok (.iload 9, 2) := by decide +kernel
theorem dX6_join_256 : decode cX6_join 256 = .ok (.ifCond .ge 7, 3) := by decide +kernel
theorem dX6_join_259 : decode cX6_join 259 = .ok (.iconst 0, 1) := by decide +kernel
theorem dX6_join_260 : decode cX6_join 260 = .ok (.goto 14, 3) := by decide +kernel
theorem dX6_join_263 : decode cX6_join 263 = .ok (.aload_n 0, 1) := by decide +kernel
theorem dX6_join_264 : decode cX6_join 264 = .ok (.iload 4, 2) := by decide +kernel
theorem dX6_join_266 : decode cX6_join 266 = .ok (.bipush 11, 2) := by decide +kernel
theorem dX6_join_268 : decode cX6_join 268 = .ok (.iload 9, 2) := by decide +kernel
theorem dX6_join_270 : decode cX6_join 270 = .ok (.iadd, 1) := by decide +kernel
theorem dX6_join_271 : decode cX6_join 271 = .ok (.invokevirtual 33, 3) := by decide +kernel
theorem dX6_join_274 : decode cX6_join 274 = .ok (.istore 11, 2) := by decide +kernel
theorem dX6_join_276 : decode cX6_join 276 = .ok (.iload 10, 2) := by decide +kernel
theorem dX6_join_278 : decode cX6_join 278 = .ok (.ifCond .ge 7, 3) := by decide +kernel
theorem dX6_join_281 : decode cX6_join 281 = .ok (.iconst 0, 1) := by decide +kernel
theorem dX6_join_282 : decode cX6_join 282 = .ok (.goto 14, 3) := by decide +kernel
theorem dX6_join_285 : decode cX6_join 285 = .ok (.aload_n 0, 1) := by decide +kernel
theorem dX6_join_286 : decode cX6_join 286 = .ok (.iload 5, 2) := by decide +kernel
theorem dX6_join_288 : decode cX6_join 288 = .ok (.bipush 11, 2) := by decide +kernel
theorem dX6_join_290 : decode cX6_join 290 = .ok (.iload 10, 2) := by decide +kernel
theorem dX6_join_292 : decode cX6_join 292 = .ok (.iadd, 1) := by decide +kernel
theorem dX6_join_293 : decode cX6_join 293 = .ok (.invokevirtual 33, 3) := by decide +kernel
theorem dX6_join_296 : decode cX6_join 296 = .ok (.istore 12, 2) := by decide +kernel
theorem dX6_join_298 : decode cX6_join 298 = .ok (.iload 11, 2) := by decide +kernel
theorem dX6_join_300 : decode cX6_join 300 = .ok (.iload 12, 2) := by decide +kernel
theorem dX6_join_302 : decode cX6_join 302 = .ok (.iadd, 1) := by decide +kernel
theorem dX6_join_303 : decode cX6_join 303 = .ok (.sipush 9999, 3) := by decide +kernel
theorem dX6_join_306 : decode cX6_join 306 = .ok (.if_icmp .le 9, 3) := by decide +kernel
theorem dX6_join_309 : decode cX6_join 309 = .ok (.sipush 9999, 3) := by decide +kernel
theorem dX6_join_312 : decode cX6_join 312 = .ok (.goto 8, 3) := by decide +kernel
theorem dX6_join_315 : decode cX6_join 315 = .ok (.iload 11, 2) := by decide +kernel
theorem dX6_join_317 : decode cX6_join 317 = .ok (.iload 12, 2) := by decide +kernel
theorem dX6_join_319 : decode cX6_join 319 = .ok (.iadd, 1) := by decide +kernel
theorem dX6_join_320 : decode cX6_join 320 = .ok (.istore 13, 2) := by decide +kernel
theorem dX6_join_322 : decode cX6_join 322 = .ok (.aload_n 0, 1) := by decide +kernel
theorem dX6_join_323 : decode cX6_join 323 = .ok (.bipush 25, 2) := by decide +kernel
theorem dX6_join_325 : decode cX6_join 325 = .ok (.bipush 11, 2) := by decide +kernel
theorem dX6_join_327 : decode cX6_join 327 = .ok (.iload 8, 2) := by decide +kernel
theorem dX6_join_329 : decode cX6_join 329 = .ok (.iadd, 1) := by decide +kernel
theorem dX6_join_330 : decode cX6_join 330 = .ok (.iload 8, 2) := by decide +kernel
theorem dX6_join_332 : decode cX6_join 332 = .ok (.ifCond .le 8, 3) := by decide +kernel
theorem dX6_join_335 : decode cX6_join 335 = .ok (.iload 13, 2) := by decide +kernel
theorem dX6_join_337 : decode cX6_join 337 = .ok (.goto 17, 3) := by decide +kernel
theorem dX6_join_340 : decode cX6_join 340 = .ok (.iload 11, 2) := by decide +kernel
theorem dX6_join_342 : decode cX6_join 342 = .ok (.iload 12, 2) := by decide +kernel
theorem dX6_join_344 : decode cX6_join 344 = .ok (.if_icmp .le 8, 3) := by decide +kernel
theorem dX6_join_347 : decode cX6_join 347 = .ok (.iload 11, 2) := by decide +kernel
theorem dX6_join_349 : decode cX6_join 349 = .ok (.goto 5, 3) := by decide +kernel
theorem dX6_join_352 : decode cX6_join 352 = .ok (.iload 12, 2) := by decide +kernel
theorem dX6_join_354 : decode cX6_join 354 = .ok (.invokevirtual 29, 3) := by decide +kernel
theorem dX6_join_357 : decode cX6_join 357 = .ok (.iinc 8 1, 3) := by decide +kernel
theorem dX6_join_360 : decode cX6_join 360 = .ok (.goto (-140), 3) := by decide +kernel
theorem dX6_join_363 : decode cX6_join 363 = .ok (.aload_n 0, 1) := by decide +kernel
theorem dX6_join_364 : decode cX6_join 364 = .ok (.iload 4, 2) := by decide +kernel
theorem dX6_join_366 : decode cX6_join 366 = .ok (.iload 5, 2) := by decide +kernel
theorem dX6_join_368 : decode cX6_join 368 = .ok (.iconst 0, 1) := by decide +kernel
theorem dX6_join_369 : decode cX6_join 369 = .ok (.invokevirtual 118, 3) := by decide +kernel
theorem dX6_join_372 : decode cX6_join 372 = .ok (.aload_n 0, 1) := by decide +kernel
theorem dX6_join_373 : decode cX6_join 373 = .ok (.iload 4, 2) := by decide +kernel
theorem dX6_join_375 : decode cX6_join 375 = .ok (.iload 5, 2) := by decide +kernel
theorem dX6_join_377 : decode cX6_join 377 = .ok (.iconst 1, 1) := by decide +kernel
theorem dX6_join_378 : decode cX6_join 378 = .ok (.invokevirtual 118, 3) := by decide +kernel
theorem dX6_join_381 : decode cX6_join 381 = .ok (.aload_n 0, 1) := by decide +kernel
theorem dX6_join_382 : decode cX6_join 382 = .ok (.iload_n 1, 1) := by decide +kernel
theorem dX6_join_383 : decode cX6_join 383 = .ok (.iconst 1, 1) := by decide +kernel
theorem dX6_join_384 : decode cX6_join 384 = .ok (.iadd, 1) := by decide +kernel
theorem dX6_join_385 : decode cX6_join 385 = .ok (.invokevirtual 84, 3) := by decide +kernel
theorem dX6_join_388 : decode cX6_join 388 = .ok (.aload_n 0, 1) := by decide +kernel
theorem dX6_join_389 : decode cX6_join 389 = .ok (.bipush 25, 2) := by decide +kernel
theorem dX6_join_391 : decode cX6_join 391 = .ok (.iload_n 1, 1) := by decide +kernel
theorem dX6_join_392 : decode cX6_join 392 = .ok (.invokevirtual 81, 3) := by decide +kernel
theorem dX6_join_395 : decode cX6_join 395 = .ok (.return_, 1) := by decide +kernel
theorem dX6_write_0 : decode cX6_write 0 = .ok (.aload_n 0, 1) := by decide +kernel
theorem dX6_write_1 : decode cX6_write 1 = .ok (.getfield 16, 3) := by decide +kernel
theorem dX6_write_4 : decode cX6_write 4 = .ok (.aload_n 0, 1) := by decide +kernel
theorem dX6_write_5 : decode cX6_write 5 = .ok (.getfield 121, 3) := by decide +kernel
theorem dX6_write_8 : decode cX6_write 8 = .ok (.iload_n 1, 1) := by decide +kernel
theorem dX6_write_9 : decode cX6_write 9 = .ok (.sipush 255, 3) := by decide +kernel
theorem dX6_write_12 : decode cX6_write 12 = .ok (.iand, 1) := by decide +kernel
theorem dX6_write_13 : decode cX6_write 13 = .ok (.iastore, 1) := by decide +kernel
theorem dX6_write_14 : decode cX6_write 14 = .ok (.aload_n 0, 1) := by decide +kernel
theorem dX6_write_15 : decode cX6_write 15 = .ok (.dup, 1) := by decide +kernel
theorem dX6_write_16 : decode cX6_write 16 = .ok (.getfield 121, 3) := by decide +kernel
theorem dX6_write_19 : decode cX6_write 19 = .ok (.iconst 1, 1) := by decide +kernel
theorem dX6_write_20 : decode cX6_write 20 = .ok (.iadd, 1) := by decide +kernel
theorem dX6_write_21 : decode cX6_write 21 = .ok (.putfield 121, 3) := by decide +kernel
theorem dX6_write_24 : decode cX6_write 24 = .ok (.return_, 1) := by decide +kernel
theorem dX6_writeRow_0 : decode cX6_writeRow 0 = .ok (.iconst 0, 1) := by decide +kernel
theorem dX6_writeRow_1 : decode cX6_writeRow 1 = .ok (.istore 4, 2) := by decide +kernel
theorem dX6_writeRow_3 : decode cX6_writeRow 3 = .ok (.iconst 0, 1) := by decide +kernel
theorem dX6_writeRow_4 : decode cX6_writeRow 4 = .ok (.istore 5, 2) := by decide +kernel
theorem dX6_writeRow_6 : decode cX6_writeRow 6 = .ok (.iload 5, 2) := by decide +kernel
theorem dX6_writeRow_8 : decode cX6_writeRow 8 = .ok (.iload_n 3, 1) := by decide +kernel
theorem dX6_writeRow_9 : decode cX6_writeRow 9 = .ok (.if_icmp .ge 35, 3) := by decide +kernel
theorem dX6_writeRow_12 : decode cX6_writeRow 12 = .ok (.iload 4, 2) := by decide +kernel
theorem dX6_writeRow_14 : decode cX6_writeRow 14 = .ok (.ifCond .ne 17, 3) := by decide +kernel
theorem dX6_writeRow_17 : decode cX6_writeRow 17 = .ok (.aload_n 0, 1) := by decide +kernel
theorem dX6_writeRow_18 : decode cX6_writeRow 18 = .ok (.iload_n 1, 1) := by decide +kernel
theorem dX6_writeRow_19 : decode cX6_writeRow 19 = .ok (.iload_n 2, 1) := by decide +kernel
theorem dX6_writeRow_20 : decode cX6_writeRow 20 = .ok (.iload 5, 2) := by decide +kernel
theorem dX6_writeRow_22 : decode cX6_writeRow 22 = .ok (.iadd, 1) := by decide +kernel
theorem dX6_writeRow_23 : decode cX6_writeRow 23 = .ok (.invokevirtual 33, 3) := by decide +kernel
theorem dX6_writeRow_26 : decode cX6_writeRow 26 = .ok (.bipush 127, 2) := by decide +kernel
theorem dX6_writeRow_28 : decode cX6_writeRow 28 = .ok (.if_icmp .le 7, 3) := by decide +kernel
theorem dX6_writeRow_31 : decode cX6_writeRow 31 = .ok (.iconst 1, 1) := by decide +kernel
theorem dX6_writeRow_32 : decode cX6_writeRow 32 = .ok (.goto 4, 3) := by decide +kernel
theorem dX6_writeRow_35 : decode cX6_writeRow 35 = .ok (.iconst 0, 1) := by decide +kernel
theorem dX6_writeRow_36 : decode cX6_writeRow 36 = .ok (.istore 4, 2) := by decide +kernel
theorem dX6_writeRow_38 : decode cX6_writeRow 38 = .ok (.iinc 5 1, 3) := by decide +kernel
theorem dX6_writeRow_41 : decode cX6_writeRow 41 = .ok (.goto (-35), 3) := by decide +kernel
theorem dX6_writeRow_44 : decode cX6_writeRow 44 = .ok (.aload_n 0, 1) := by decide +kernel
theorem dX6_writeRow_45 : decode cX6_writeRow 45 = .ok (.bipush 16, 2) := by decide +kernel
theorem dX6_writeRow_47 : decode cX6_writeRow 47 = .ok (.iload_n 3, 1) := by decide +kernel
theorem dX6_writeRow_48 : decode cX6_writeRow 48 = .ok (.imul, 1) := by decide +kernel
theorem dX6_writeRow_49 : decode cX6_writeRow 49 = .ok (.iload 4, 2) := by decide +kernel
theorem dX6_writeRow_51 : decode cX6_writeRow 51 = .ok (.ifCond .eq 7, 3) := by decide +kernel
theorem dX6_writeRow_54 : decode cX6_writeRow 54 = .ok (.iconst 2, 1) := by decide +kernel
theorem dX6_writeRow_55 : decode cX6_writeRow 55 = .ok (.goto 4, 3) := by decide +kernel
theorem dX6_writeRow_58 : decode cX6_writeRow 58 = .ok (.iconst 1, 1) := by decide +kernel
theorem dX6_writeRow_59 : decode cX6_writeRow 59 = .ok (.iadd, 1) := by decide +kernel
theorem dX6_writeRow_60 : decode cX6_writeRow 60 = .ok (.invokevirtual 124, 3) := by decide +kernel
theorem dX6_writeRow_63 : decode cX6_writeRow 63 = .ok (.iconst 0, 1) := by decide +kernel
theorem dX6_writeRow_64 : decode cX6_writeRow 64 = .ok (.istore 5, 2) := by decide +kernel
theorem dX6_writeRow_66 : decode cX6_writeRow 66 = .ok (.iload 5, 2) := by decide +kernel
theorem dX6_writeRow_68 : decode cX6_writeRow 68 = .ok (.iload_n 3, 1) := by decide +kernel
theorem dX6_writeRow_69 : decode cX6_writeRow 69 = .ok (.if_icmp .ge 43, 3) := by decide +kernel
theorem dX6_writeRow_72 : decode cX6_writeRow 72 = .ok (.aload_n 0, 1) := by decide +kernel
theorem dX6_writeRow_73 : decode cX6_writeRow 73 = .ok (.aload_n 0, 1) := by decide +kernel
theorem dX6_writeRow_74 : decode cX6_writeRow 74 = .ok (.iload_n 1, 1) := by decide +kernel
theorem dX6_writeRow_75 : decode cX6_writeRow 75 = .ok (.iload_n 2, 1) := by decide +kernel
theorem dX6_writeRow_76 : decode cX6_writeRow 76 = .ok (.iload 5, 2) := by decide +kernel
theorem dX6_writeRow_78 : decode cX6_writeRow 78 = .ok (.iadd, 1) := by decide +kernel
theorem dX6_writeRow_79 : decode cX6_writeRow 79 = .ok (.invokevirtual 33, 3) := by decide +kernel
theorem dX6_writeRow_82 : decode cX6_writeRow 82 = .ok (.invokevirtual 124, 3) := by decide +kernel
theorem dX6_writeRow_85 : decode cX6_writeRow 85 = .ok (.iload 4, 2) := by decide +kernel
theorem dX6_writeRow_87 : decode cX6_writeRow 87 = .ok (.ifCond .eq 19, 3) := by decide +kernel
theorem dX6_writeRow_90 : decode cX6_writeRow 90 = .ok (.aload_n 0, 1) := by decide +kernel
theorem dX6_writeRow_91 : decode cX6_writeRow 91 = .ok (.aload_n 0, 1) := by decide +kernel
theorem dX6_writeRow_92 : decode cX6_writeRow 92 = .ok (.iload_n 1, 1) := by decide +kernel
theorem dX6_writeRow_93 : decode cX6_writeRow 93 = .ok (.iload_n 2, 1) := by decide +kernel
theorem dX6_writeRow_94 : decode cX6_writeRow 94 = .ok (.iload 5, 2) := by decide +kernel
theorem dX6_writeRow_96 : decode cX6_writeRow 96 = .ok (.iadd, 1) := by decide +kernel
theorem dX6_writeRow_97 : decode cX6_writeRow 97 = .ok (.invokevirtual 33, 3) := by decide +kernel
theorem dX6_writeRow_100 : decode cX6_writeRow 100 = .ok (.bipush 8, 2) := by decide +kernel
theorem dX6_writeRow_102 : decode cX6_writeRow 102 = .ok (.ishr, 1) := by decide +kernel
theorem dX6_writeRow_103 : decode cX6_writeRow 103 = .ok (.invokevirtual 124, 3) := by decide +kernel
theorem dX6_writeRow_106 : decode cX6_writeRow 106 = .ok (.iinc 5 1, 3) := by decide +kernel
theorem dX6_writeRow_109 : decode cX6_writeRow 109 = .ok (.goto (-43), 3) := by decide +kernel
theorem dX6_writeRow_112 : decode cX6_writeRow 112 = .ok (.return_, 1) := by decide +kernel
theorem dX6_letter_0 : decode cX6_letter 0 = .ok (.iload_n 0, 1) := by decide +kernel
theorem dX6_letter_1 : decode cX6_letter 1 = .ok (.ifCond .ne 8, 3) := by decide +kernel
theorem dX6_letter_4 : decode cX6_letter 4 = .ok (.bipush 65, 2) := by decide +kernel
theorem dX6_letter_6 : decode cX6_letter 6 = .ok (.goto 25, 3) := by decide +kernel
theorem dX6_letter_9 : decode cX6_letter 9 = .ok (.iload_n 0, 1) := by decide +kernel
theorem dX6_letter_10 : decode cX6_letter 10 = .ok (.iconst 1, 1) := by decide +kernel
theorem dX6_letter_11 : decode cX6_letter 11 = .ok (.if_icmp .ne 8, 3) := by decide +kernel
theorem dX6_letter_14 : decode cX6_letter 14 = .ok (.bipush 67, 2) := by decide +kernel
theorem dX6_letter_16 : decode cX6_letter 16 = .ok (.goto 15, 3) := by decide +kernel
theorem dX6_letter_19 : decode cX6_letter 19 = .ok (.iload_n 0, 1) := by decide +kernel
theorem dX6_letter_20 : decode cX6_letter 20 = .ok (.iconst 2, 1) := by decide +kernel
theorem dX6_letter_21 : decode cX6_letter 21 = .ok (.if_icmp .ne 8, 3) := by decide +kernel
theorem dX6_letter_24 : decode cX6_letter 24 = .ok (.bipush 71, 2) := by decide +kernel
theorem dX6_letter_26 : decode cX6_letter 26 = .ok (.goto 5, 3) := by decide +kernel
theorem dX6_letter_29 : decode cX6_letter 29 = .ok (.bipush 84, 2) := by decide +kernel
theorem dX6_letter_31 : decode cX6_letter 31 = .ok (.ireturn, 1) := by decide +kernel
theorem dX6_writeOut_0 : decode cX6_writeOut 0 = .ok (.aload_n 0, 1) := by decide +kernel
theorem dX6_writeOut_1 : decode cX6_writeOut 1 = .ok (.iconst 0, 1) := by decide +kernel
theorem dX6_writeOut_2 : decode cX6_writeOut 2 = .ok (.putfield 121, 3) := by decide +kernel
theorem dX6_writeOut_5 : decode cX6_writeOut 5 = .ok (.aload_n 0, 1) := by decide +kernel
theorem dX6_writeOut_6 : decode cX6_writeOut 6 = .ok (.aload_n 0, 1) := by decide +kernel
theorem dX6_writeOut_7 : decode cX6_writeOut 7 = .ok (.iload_n 1, 1) := by decide +kernel
theorem dX6_writeOut_8 : decode cX6_writeOut 8 = .ok (.iconst 0, 1) := by decide +kernel
theorem dX6_writeOut_9 : decode cX6_writeOut 9 = .ok (.invokevirtual 33, 3) := by decide +kernel
theorem dX6_writeOut_12 : decode cX6_writeOut 12 = .ok (.invokevirtual 124, 3) := by decide +kernel
theorem dX6_writeOut_15 : decode cX6_writeOut 15 = .ok (.aload_n 0, 1) := by decide +kernel
theorem dX6_writeOut_16 : decode cX6_writeOut 16 = .ok (.aload_n 0, 1) := by decide +kernel
theorem dX6_writeOut_17 : decode cX6_writeOut 17 = .ok (.iload_n 1, 1) := by decide +kernel
theorem dX6_writeOut_18 : decode cX6_writeOut 18 = .ok (.iconst 0, 1) := by decide +kernel
theorem dX6_writeOut_19 : decode cX6_writeOut 19 = .ok (.invokevirtual 33, 3) := by decide +kernel
theorem dX6_writeOut_22 : decode cX6_writeOut 22 = .ok (.bipush 8, 2) := by decide +kernel
theorem dX6_writeOut_24 : decode cX6_writeOut 24 = .ok (.ishr, 1) := by decide +kernel
theorem dX6_writeOut_25 : decode cX6_writeOut 25 = .ok (.invokevirtual 124, 3) := by decide +kernel
theorem dX6_writeOut_28 : decode cX6_writeOut 28 = .ok (.aload_n 0, 1) := by decide +kernel
theorem dX6_writeOut_29 : decode cX6_writeOut 29 = .ok (.aload_n 0, 1) := by decide +kernel
theorem dX6_writeOut_30 : decode cX6_writeOut 30 = .ok (.iload_n 1, 1) := by decide +kernel
theorem dX6_writeOut_31 : decode cX6_writeOut 31 = .ok (.bipush 10, 2) := by decide +kernel
theorem dX6_writeOut_33 : decode cX6_writeOut 33 = .ok (.invokevirtual 33, 3) := by decide +kernel
theorem dX6_writeOut_36 : decode cX6_writeOut 36 = .ok (.invokevirtual 124, 3) := by decide +kernel
theorem dX6_writeOut_39 : decode cX6_writeOut 39 = .ok (.aload_n 0, 1) := by decide +kernel
theorem dX6_writeOut_40 : decode cX6_writeOut 40 = .ok (.aload_n 0, 1) := by decide +kernel
theorem dX6_writeOut_41 : decode cX6_writeOut 41 = .ok (.iload_n 1, 1) := by decide +kernel
theorem dX6_writeOut_42 : decode cX6_writeOut 42 = .ok (.bipush 10, 2) := by decide +kernel
theorem dX6_writeOut_44 : decode cX6_writeOut 44 = .ok (.invokevirtual 33, 3) := by decide +kernel
theorem dX6_writeOut_47 : decode cX6_writeOut 47 = .ok (.bipush 8, 2) := by decide +kernel
theorem dX6_writeOut_49 : decode cX6_writeOut 49 = .ok (.ishr, 1) := by decide +kernel
theorem dX6_writeOut_50 : decode cX6_writeOut 50 = .ok (.invokevirtual 124, 3) := by decide +kernel
theorem dX6_writeOut_53 : decode cX6_writeOut 53 = .ok (.aload_n 0, 1) := by decide +kernel
theorem dX6_writeOut_54 : decode cX6_writeOut 54 = .ok (.iload_n 1, 1) := by decide +kernel
theorem dX6_writeOut_55 : decode cX6_writeOut 55 = .ok (.iconst 1, 1) := by decide +kernel
theorem dX6_writeOut_56 : decode cX6_writeOut 56 = .ok (.invokevirtual 33, 3) := by decide +kernel
theorem dX6_writeOut_59 : decode cX6_writeOut 59 = .ok (.istore_n 2, 1) := by decide +kernel
theorem dX6_writeOut_60 : decode cX6_writeOut 60 = .ok (.aload_n 0, 1) := by decide +kernel
theorem dX6_writeOut_61 : decode cX6_writeOut 61 = .ok (.iload_n 2, 1) := by decide +kernel
theorem dX6_writeOut_62 : decode cX6_writeOut 62 = .ok (.invokevirtual 124, 3) := by decide +kernel
theorem dX6_writeOut_65 : decode cX6_writeOut 65 = .ok (.iconst 0, 1) := by decide +kernel
theorem dX6_writeOut_66 : decode cX6_writeOut 66 = .ok (.istore_n 3, 1) := by decide +kernel
theorem dX6_writeOut_67 : decode cX6_writeOut 67 = .ok (.iload_n 3, 1) := by decide +kernel
theorem dX6_writeOut_68 : decode cX6_writeOut 68 = .ok (.iload_n 2, 1) := by decide +kernel
theorem dX6_writeOut_69 : decode cX6_writeOut 69 = .ok (.if_icmp .ge 71, 3) := by decide +kernel
theorem dX6_writeOut_72 : decode cX6_writeOut 72 = .ok (.aload_n 0, 1) := by decide +kernel
theorem dX6_writeOut_73 : decode cX6_writeOut 73 = .ok (.iload_n 1, 1) := by decide +kernel
theorem dX6_writeOut_74 : decode cX6_writeOut 74 = .ok (.iconst 2, 1) := by decide +kernel
theorem dX6_writeOut_75 : decode cX6_writeOut 75 = .ok (.iload_n 3, 1) := by decide +kernel
theorem dX6_writeOut_76 : decode cX6_writeOut 76 = .ok (.iadd, 1) := by decide +kernel
theorem dX6_writeOut_77 : decode cX6_writeOut 77 = .ok (.invokevirtual 33, 3) := by decide +kernel
theorem dX6_writeOut_80 : decode cX6_writeOut 80 = .ok (.istore 4, 2) := by decide +kernel
theorem dX6_writeOut_82 : decode cX6_writeOut 82 = .ok (.aload_n 0, 1) := by decide +kernel
theorem dX6_writeOut_83 : decode cX6_writeOut 83 = .ok (.bipush 16, 2) := by decide +kernel
theorem dX6_writeOut_85 : decode cX6_writeOut 85 = .ok (.iload 4, 2) := by decide +kernel
theorem dX6_writeOut_87 : decode cX6_writeOut 87 = .ok (.imul, 1) := by decide +kernel
theorem dX6_writeOut_88 : decode cX6_writeOut 88 = .ok (.bipush 7, 2) := by decide +kernel
theorem dX6_writeOut_90 : decode cX6_writeOut 90 = .ok (.iadd, 1) := by decide +kernel
theorem dX6_writeOut_91 : decode cX6_writeOut 91 = .ok (.invokevirtual 124, 3) := by decide +kernel
theorem dX6_writeOut_94 : decode cX6_writeOut 94 = .ok (.iload 4, 2) := by decide +kernel
theorem dX6_writeOut_96 : decode cX6_writeOut 96 = .ok (.iconst 1, 1) := by decide +kernel
theorem dX6_writeOut_97 : decode cX6_writeOut 97 = .ok (.isub, 1) := by decide +kernel
theorem dX6_writeOut_98 : decode cX6_writeOut 98 = .ok (.istore 5, 2) := by decide +kernel
theorem dX6_writeOut_100 : decode cX6_writeOut 100 = .ok (.iload 5, 2) := by decide +kernel
theorem dX6_writeOut_102 : decode cX6_writeOut 102 = .ok (.ifCond .lt 32, 3) := by decide +kernel
theorem dX6_writeOut_105 : decode cX6_writeOut 105 = .ok (.aload_n 0, 1) := by decide +kernel
theorem dX6_writeOut_106 : decode cX6_writeOut 106 = .ok (.aload_n 0, 1) := by decide +kernel
theorem dX6_writeOut_107 : decode cX6_writeOut 107 = .ok (.iload_n 1, 1) := by decide +kernel
theorem dX6_writeOut_108 : decode cX6_writeOut 108 = .ok (.bipush 6, 2) := by decide +kernel
theorem dX6_writeOut_110 : decode cX6_writeOut 110 = .ok (.iload_n 3, 1) := by decide +kernel
theorem dX6_writeOut_111 : decode cX6_writeOut 111 = .ok (.iadd, 1) := by decide +kernel
theorem dX6_writeOut_112 : decode cX6_writeOut 112 = .ok (.invokevirtual 33, 3) := by decide +kernel
theorem dX6_writeOut_115 : decode cX6_writeOut 115 = .ok (.iconst 2, 1) := by decide +kernel
theorem dX6_writeOut_116 : decode cX6_writeOut 116 = .ok (.iload 5, 2) := by decide +kernel
theorem dX6_writeOut_118 : decode cX6_writeOut 118 = .ok (.imul, 1) := by decide +kernel
theorem dX6_writeOut_119 : decode cX6_writeOut 119 = .ok (.ishr, 1) := by decide +kernel
theorem dX6_writeOut_120 : decode cX6_writeOut 120 = .ok (.iconst 3, 1) := by decide +kernel
theorem dX6_writeOut_121 : decode cX6_writeOut 121 = .ok (.iand, 1) := by decide +kernel
theorem dX6_writeOut_122 : decode cX6_writeOut 122 = .ok (.invokestatic 127, 3) := by decide +kernel
theorem dX6_writeOut_125 : decode cX6_writeOut 125 = .ok (.invokevirtual 124, 3) := by decide +kernel
theorem dX6_writeOut_128 : decode cX6_writeOut 128 = .ok (.iinc 5 (-1), 3) := by decide +kernel
theorem dX6_writeOut_131 : decode cX6_writeOut 131 = .ok (.goto (-31), 3) := by decide +kernel
theorem dX6_writeOut_134 : decode cX6_writeOut 134 = .ok (.iinc 3 1, 3) := by decide +kernel
theorem dX6_writeOut_137 : decode cX6_writeOut 137 = .ok (.goto (-70), 3) := by decide +kernel
theorem dX6_writeOut_140 : decode cX6_writeOut 140 = .ok (.aload_n 0, 1) := by decide +kernel
theorem dX6_writeOut_141 : decode cX6_writeOut 141 = .ok (.iload_n 1, 1) := by decide +kernel
theorem dX6_writeOut_142 : decode cX6_writeOut 142 = .ok (.bipush 11, 2) := by decide +kernel
theorem dX6_writeOut_144 : decode cX6_writeOut 144 = .ok (.iload_n 2, 1) := by decide +kernel
theorem dX6_writeOut_145 : decode cX6_writeOut 145 = .ok (.invokevirtual 130, 3) := by decide +kernel
theorem dX6_writeOut_148 : decode cX6_writeOut 148 = .ok (.iconst 0, 1) := by decide +kernel
theorem dX6_writeOut_149 : decode cX6_writeOut 149 = .ok (.istore_n 3, 1) := by decide +kernel
theorem dX6_writeOut_150 : decode cX6_writeOut 150 = .ok (.iload_n 3, 1) := by decide +kernel
theorem dX6_writeOut_151 : decode cX6_writeOut 151 = .ok (.iconst 2, 1) := by decide +kernel
theorem dX6_writeOut_152 : decode cX6_writeOut 152 = .ok (.if_icmp .ge 82, 3) := by decide +kernel
theorem dX6_writeOut_155 : decode cX6_writeOut 155 = .ok (.aload_n 0, 1) := by decide +kernel
theorem dX6_writeOut_156 : decode cX6_writeOut 156 = .ok (.bipush 33, 2) := by decide +kernel
theorem dX6_writeOut_158 : decode cX6_writeOut 158 = .ok (.invokevirtual 124, 3) := by decide +kernel
theorem dX6_writeOut_161 : decode cX6_writeOut 161 = .ok (.iconst 0, 1) := by decide +kernel
theorem dX6_writeOut_162 : decode cX6_writeOut 162 = .ok (.istore 4, 2) := by decide +kernel
theorem dX6_writeOut_164 : decode cX6_writeOut 164 = .ok (.iload 4, 2) := by decide +kernel
theorem dX6_writeOut_166 : decode cX6_writeOut 166 = .ok (.iconst 2, 1) := by decide +kernel
theorem dX6_writeOut_167 : decode cX6_writeOut 167 = .ok (.if_icmp .ge 45, 3) := by decide +kernel
theorem dX6_writeOut_170 : decode cX6_writeOut 170 = .ok (.aload_n 0, 1) := by decide +kernel
theorem dX6_writeOut_171 : decode cX6_writeOut 171 = .ok (.iconst 2, 1) := by decide +kernel
theorem dX6_writeOut_172 : decode cX6_writeOut 172 = .ok (.aload_n 0, 1) := by decide +kernel
theorem dX6_writeOut_173 : decode cX6_writeOut 173 = .ok (.iload_n 1, 1) := by decide +kernel
theorem dX6_writeOut_174 : decode cX6_writeOut 174 = .ok (.bipush 15, 2) := by decide +kernel
theorem dX6_writeOut_176 : decode cX6_writeOut 176 = .ok (.iconst 3, 1) := by decide +kernel
theorem dX6_writeOut_177 : decode cX6_writeOut 177 = .ok (.iload_n 3, 1) := by decide +kernel
theorem dX6_writeOut_178 : decode cX6_writeOut 178 = .ok (.imul, 1) := by decide +kernel
theorem dX6_writeOut_179 : decode cX6_writeOut 179 = .ok (.iadd, 1) := by decide +kernel
theorem dX6_writeOut_180 : decode cX6_writeOut 180 = .ok (.iload 4, 2) := by decide +kernel
theorem dX6_writeOut_182 : decode cX6_writeOut 182 = .ok (.iadd, 1) := by decide +kernel
theorem dX6_writeOut_183 : decode cX6_writeOut 183 = .ok (.invokevirtual 33, 3) := by decide +kernel
theorem dX6_writeOut_186 : decode cX6_writeOut 186 = .ok (.iconst 1, 1) := by decide +kernel
theorem dX6_writeOut_187 : decode cX6_writeOut 187 = .ok (.iadd, 1) := by decide +kernel
theorem dX6_writeOut_188 : decode cX6_writeOut 188 = .ok (.imul, 1) := by decide +kernel
theorem dX6_writeOut_189 : decode cX6_writeOut 189 = .ok (.aload_n 0, 1) := by decide +kernel
theorem dX6_writeOut_190 : decode cX6_writeOut 190 = .ok (.iload_n 1, 1) := by decide +kernel
theorem dX6_writeOut_191 : decode cX6_writeOut 191 = .ok (.bipush 15, 2) := by decide +kernel
theorem dX6_writeOut_193 : decode cX6_writeOut 193 = .ok (.iconst 3, 1) := by decide +kernel
theorem dX6_writeOut_194 : decode cX6_writeOut 194 = .ok (.iload_n 3, 1) := by decide +kernel
theorem dX6_writeOut_195 : decode cX6_writeOut 195 = .ok (.imul, 1) := by decide +kernel
theorem dX6_writeOut_196 : decode cX6_writeOut 196 = .ok (.iadd, 1) := by decide +kernel
theorem dX6_writeOut_197 : decode cX6_writeOut 197 = .ok (.iconst 2, 1) := by decide +kernel
theorem dX6_writeOut_198 : decode cX6_writeOut 198 = .ok (.iadd, 1) := by decide +kernel
theorem dX6_writeOut_199 : decode cX6_writeOut 199 = .ok (.invokevirtual 33, 3) := by decide +kernel
theorem dX6_writeOut_202 : decode cX6_writeOut 202 = .ok (.iadd, 1) := by decide +kernel
theorem dX6_writeOut_203 : decode cX6_writeOut 203 = .ok (.invokevirtual 124, 3) := by decide +kernel
theorem dX6_writeOut_206 : decode cX6_writeOut 206 = .ok (.iinc 4 1, 3) := by decide +kernel
theorem dX6_writeOut_209 : decode cX6_writeOut 209 = .ok (.goto (-45), 3) := by decide +kernel
theorem dX6_writeOut_212 : decode cX6_writeOut 212 = .ok (.aload_n 0, 1) := by decide +kernel
theorem dX6_writeOut_213 : decode cX6_writeOut 213 = .ok (.iload_n 1, 1) := by decide +kernel
theorem dX6_writeOut_214 : decode cX6_writeOut 214 = .ok (.bipush 21, 2) := by decide +kernel
theorem dX6_writeOut_216 : decode cX6_writeOut 216 = .ok (.bipush 10, 2) := by decide +kernel
theorem dX6_writeOut_218 : decode cX6_writeOut 218 = .ok (.iload_n 3, 1) := by decide +kernel
theorem dX6_writeOut_219 : decode cX6_writeOut 219 = .ok (.imul, 1) := by decide +kernel
theorem dX6_writeOut_220 : decode cX6_writeOut 220 = .ok (.iadd, 1) := by decide +kernel
theorem dX6_writeOut_221 : decode cX6_writeOut 221 = .ok (.iload_n 2, 1) := by decide +kernel
theorem dX6_writeOut_222 : decode cX6_writeOut 222 = .ok (.invokestatic 70, 3) := by decide +kernel
theorem dX6_writeOut_225 : decode cX6_writeOut 225 = .ok (.invokevirtual 130, 3) := by decide +kernel
theorem dX6_writeOut_228 : decode cX6_writeOut 228 = .ok (.iinc 3 1, 3) := by decide +kernel
theorem dX6_writeOut_231 : decode cX6_writeOut 231 = .ok (.goto (-81), 3) := by decide +kernel
theorem dX6_writeOut_234 : decode cX6_writeOut 234 = .ok (.return_, 1) := by decide +kernel
theorem dX6_written_0 : decode cX6_written 0 = .ok (.iload_n 1, 1) := by decide +kernel
theorem dX6_written_1 : decode cX6_written 1 = .ok (.aload_n 0, 1) := by decide +kernel
theorem dX6_written_2 : decode cX6_written 2 = .ok (.getfield 44, 3) := by decide +kernel
theorem dX6_written_5 : decode cX6_written 5 = .ok (.invokestatic 67, 3) := by decide +kernel
theorem dX6_written_8 : decode cX6_written 8 = .ok (.istore_n 3, 1) := by decide +kernel
theorem dX6_written_9 : decode cX6_written 9 = .ok (.iload_n 3, 1) := by decide +kernel
theorem dX6_written_10 : decode cX6_written 10 = .ok (.ifCond .ne 8, 3) := by decide +kernel
theorem dX6_written_13 : decode cX6_written 13 = .ok (.aload_n 0, 1) := by decide +kernel
theorem dX6_written_14 : decode cX6_written 14 = .ok (.iload_n 1, 1) := by decide +kernel
theorem dX6_written_15 : decode cX6_written 15 = .ok (.invokevirtual 133, 3) := by decide +kernel
theorem dX6_written_18 : decode cX6_written 18 = .ok (.aload_n 0, 1) := by decide +kernel
theorem dX6_written_19 : decode cX6_written 19 = .ok (.iload_n 3, 1) := by decide +kernel
theorem dX6_written_20 : decode cX6_written 20 = .ok (.iload_n 2, 1) := by decide +kernel
theorem dX6_written_21 : decode cX6_written 21 = .ok (.iconst (-1), 1) := by decide +kernel
theorem dX6_written_22 : decode cX6_written 22 = .ok (.if_icmp .lt 11, 3) := by decide +kernel
theorem dX6_written_25 : decode cX6_written 25 = .ok (.iload_n 2, 1) := by decide +kernel
theorem dX6_written_26 : decode cX6_written 26 = .ok (.aload_n 0, 1) := by decide +kernel
theorem dX6_written_27 : decode cX6_written 27 = .ok (.getfield 121, 3) := by decide +kernel
theorem dX6_written_30 : decode cX6_written 30 = .ok (.if_icmp .lt 7, 3) := by decide +kernel
theorem dX6_written_33 : decode cX6_written 33 = .ok (.iconst 1, 1) := by decide +kernel
theorem dX6_written_34 : decode cX6_written 34 = .ok (.goto 4, 3) := by decide +kernel
theorem dX6_written_37 : decode cX6_written 37 = .ok (.iconst 0, 1) := by decide +kernel
theorem dX6_written_38 : decode cX6_written 38 = .ok (.invokevirtual 47, 3) := by decide +kernel
theorem dX6_written_41 : decode cX6_written 41 = .ok (.ifCond .eq 5, 3) := by decide +kernel
theorem dX6_written_44 : decode cX6_written 44 = .ok (.iconst 0, 1) := by decide +kernel
theorem dX6_written_45 : decode cX6_written 45 = .ok (.ireturn, 1) := by decide +kernel
theorem dX6_written_46 : decode cX6_written 46 = .ok (.iload_n 2, 1) := by decide +kernel
theorem dX6_written_47 : decode cX6_written 47 = .ok (.ifCond .ge 10, 3) := by decide +kernel
theorem dX6_written_50 : decode cX6_written 50 = .ok (.aload_n 0, 1) := by decide +kernel
theorem dX6_written_51 : decode cX6_written 51 = .ok (.getfield 121, 3) := by decide +kernel
theorem dX6_written_54 : decode cX6_written 54 = .ok (.goto 9, 3) := by decide +kernel
theorem dX6_written_57 : decode cX6_written 57 = .ok (.aload_n 0, 1) := by decide +kernel
theorem dX6_written_58 : decode cX6_written 58 = .ok (.getfield 16, 3) := by decide +kernel
theorem dX6_written_61 : decode cX6_written 61 = .ok (.iload_n 2, 1) := by decide +kernel
theorem dX6_written_62 : decode cX6_written 62 = .ok (.iaload, 1) := by decide +kernel
theorem dX6_written_63 : decode cX6_written 63 = .ok (.ireturn, 1) := by decide +kernel
theorem dX6_type_0 : decode cX6_type 0 = .ok (.iload_n 3, 1) := by decide +kernel
theorem dX6_type_1 : decode cX6_type 1 = .ok (.iconst 1, 1) := by decide +kernel
theorem dX6_type_2 : decode cX6_type 2 = .ok (.if_icmp .lt 9, 3) := by decide +kernel
theorem dX6_type_5 : decode cX6_type 5 = .ok (.iload_n 3, 1) := by decide +kernel
theorem dX6_type_6 : decode cX6_type 6 = .ok (.bipush 8, 2) := by decide +kernel
theorem dX6_type_8 : decode cX6_type 8 = .ok (.if_icmp .le 7, 3) := by decide +kernel
theorem dX6_type_11 : decode cX6_type 11 = .ok (.iconst 1, 1) := by decide +kernel
theorem dX6_type_12 : decode cX6_type 12 = .ok (.goto 4, 3) := by decide +kernel
theorem dX6_type_15 : decode cX6_type 15 = .ok (.iconst 0, 1) := by decide +kernel
theorem dX6_type_16 : decode cX6_type 16 = .ok (.istore 4, 2) := by decide +kernel
theorem dX6_type_18 : decode cX6_type 18 = .ok (.aload_n 0, 1) := by decide +kernel
theorem dX6_type_19 : decode cX6_type 19 = .ok (.iload 4, 2) := by decide +kernel
theorem dX6_type_21 : decode cX6_type 21 = .ok (.iload 4, 2) := by decide +kernel
theorem dX6_type_23 : decode cX6_type 23 = .ok (.ifCond .ne 18, 3) := by decide +kernel
theorem dX6_type_26 : decode cX6_type 26 = .ok (.aload_n 0, 1) := by decide +kernel
theorem dX6_type_27 : decode cX6_type 27 = .ok (.getfield 136, 3) := by decide +kernel
theorem dX6_type_30 : decode cX6_type 30 = .ok (.iload_n 3, 1) := by decide +kernel
theorem dX6_type_31 : decode cX6_type 31 = .ok (.iadd, 1) := by decide +kernel
theorem dX6_type_32 : decode cX6_type 32 = .ok (.bipush 120, 2) := by decide +kernel
theorem dX6_type_34 : decode cX6_type 34 = .ok (.if_icmp .le 7, 3) := by decide +kernel
theorem dX6_type_37 : decode cX6_type 37 = .ok (.iconst 1, 1) := by decide +kernel
theorem dX6_type_38 : decode cX6_type 38 = .ok (.goto 4, 3) := by decide +kernel
theorem dX6_type_41 : decode cX6_type 41 = .ok (.iconst 0, 1) := by decide +kernel
theorem dX6_type_42 : decode cX6_type 42 = .ok (.invokevirtual 47, 3) := by decide +kernel
theorem dX6_type_45 : decode cX6_type 45 = .ok (.ifCond .eq 4, 3) := by decide +kernel
theorem dX6_type_48 : decode cX6_type 48 = .ok (.return_, 1) := by decide +kernel
theorem dX6_type_49 : decode cX6_type 49 = .ok (.iload_n 3, 1) := by decide +kernel
theorem dX6_type_50 : decode cX6_type 50 = .ok (.iconst 1, 1) := by decide +kernel
theorem dX6_type_51 : decode cX6_type 51 = .ok (.isub, 1) := by decide +kernel
theorem dX6_type_52 : decode cX6_type 52 = .ok (.istore 5, 2) := by decide +kernel
theorem dX6_type_54 : decode cX6_type 54 = .ok (.iload 5, 2) := by decide +kernel
theorem dX6_type_56 : decode cX6_type 56 = .ok (.ifCond .lt 40, 3) := by decide +kernel
theorem dX6_type_59 : decode cX6_type 59 = .ok (.aload_n 0, 1) := by decide +kernel
theorem dX6_type_60 : decode cX6_type 60 = .ok (.getfield 19, 3) := by decide +kernel
theorem dX6_type_63 : decode cX6_type 63 = .ok (.aload_n 0, 1) := by decide +kernel
theorem dX6_type_64 : decode cX6_type 64 = .ok (.getfield 136, 3) := by decide +kernel
theorem dX6_type_67 : decode cX6_type 67 = .ok (.lload_n 1, 1) := by decide +kernel
theorem dX6_type_68 : decode cX6_type 68 = .ok (.bipush 8, 2) := by decide +kernel
theorem dX6_type_70 : decode cX6_type 70 = .ok (.iload 5, 2) := by decide +kernel
theorem dX6_type_72 : decode cX6_type 72 = .ok (.imul, 1) := by decide +kernel
theorem dX6_type_73 : decode cX6_type 73 = .ok (.lshr, 1) := by decide +kernel
theorem dX6_type_74 : decode cX6_type 74 = .ok (.ldc2_w 139, 3) := by decide +kernel
theorem dX6_type_77 : decode cX6_type 77 = .ok (.land, 1) := by decide +kernel
theorem dX6_type_78 : decode cX6_type 78 = .ok (.l2i, 1) := by decide +kernel
theorem dX6_type_79 : decode cX6_type 79 = .ok (.iastore, 1) := by decide +kernel
theorem dX6_type_80 : decode cX6_type 80 = .ok (.aload_n 0, 1) := by decide +kernel
theorem dX6_type_81 : decode cX6_type 81 = .ok (.dup, 1) := by decide +kernel
theorem dX6_type_82 : decode cX6_type 82 = .ok (.getfield 136, 3) := by decide +kernel
theorem dX6_type_85 : decode cX6_type 85 = .ok (.iconst 1, 1) := by decide +kernel
theorem dX6_type_86 : decode cX6_type 86 = .ok (.iadd, 1) := by decide +kernel
theorem dX6_type_87 : decode cX6_type 87 = .ok (.putfield 136, 3) := by decide +kernel
theorem dX6_type_90 : decode cX6_type 90 = .ok (.iinc 5 (-1), 3) := by decide +kernel
theorem dX6_type_93 : decode cX6_type 93 = .ok (.goto (-39), 3) := by decide +kernel
theorem dX6_type_96 : decode cX6_type 96 = .ok (.return_, 1) := by decide +kernel
theorem dX6_byteAt_0 : decode cX6_byteAt 0 = .ok (.iload_n 1, 1) := by decide +kernel
theorem dX6_byteAt_1 : decode cX6_byteAt 1 = .ok (.aload_n 0, 1) := by decide +kernel
theorem dX6_byteAt_2 : decode cX6_byteAt 2 = .ok (.getfield 136, 3) := by decide +kernel
theorem dX6_byteAt_5 : decode cX6_byteAt 5 = .ok (.if_icmp .ge 12, 3) := by decide +kernel
theorem dX6_byteAt_8 : decode cX6_byteAt 8 = .ok (.aload_n 0, 1) := by decide +kernel
theorem dX6_byteAt_9 : decode cX6_byteAt 9 = .ok (.getfield 19, 3) := by decide +kernel
theorem dX6_byteAt_12 : decode cX6_byteAt 12 = .ok (.iload_n 1, 1) := by decide +kernel
theorem dX6_byteAt_13 : decode cX6_byteAt 13 = .ok (.iaload, 1) := by decide +kernel
theorem dX6_byteAt_14 : decode cX6_byteAt 14 = .ok (.goto 4, 3) := by decide +kernel
theorem dX6_byteAt_17 : decode cX6_byteAt 17 = .ok (.iconst 0, 1) := by decide +kernel
theorem dX6_byteAt_18 : decode cX6_byteAt 18 = .ok (.ireturn, 1) := by decide +kernel
theorem dX6_twoAt_0 : decode cX6_twoAt 0 = .ok (.aload_n 0, 1) := by decide +kernel
theorem dX6_twoAt_1 : decode cX6_twoAt 1 = .ok (.iload_n 1, 1) := by decide +kernel
theorem dX6_twoAt_2 : decode cX6_twoAt 2 = .ok (.invokevirtual 141, 3) := by decide +kernel
theorem dX6_twoAt_5 : decode cX6_twoAt 5 = .ok (.sipush 256, 3) := by decide +kernel
theorem dX6_twoAt_8 : decode cX6_twoAt 8 = .ok (.aload_n 0, 1) := by decide +kernel
theorem dX6_twoAt_9 : decode cX6_twoAt 9 = .ok (.iload_n 1, 1) := by decide +kernel
theorem dX6_twoAt_10 : decode cX6_twoAt 10 = .ok (.iconst 1, 1) := by decide +kernel
theorem dX6_twoAt_11 : decode cX6_twoAt 11 = .ok (.iadd, 1) := by decide +kernel
theorem dX6_twoAt_12 : decode cX6_twoAt 12 = .ok (.invokevirtual 141, 3) := by decide +kernel
theorem dX6_twoAt_15 : decode cX6_twoAt 15 = .ok (.imul, 1) := by decide +kernel
theorem dX6_twoAt_16 : decode cX6_twoAt 16 = .ok (.iadd, 1) := by decide +kernel
theorem dX6_twoAt_17 : decode cX6_twoAt 17 = .ok (.ireturn, 1) := by decide +kernel
theorem dX6_readRow_0 : decode cX6_readRow 0 = .ok (.aload_n 0, 1) := by decide +kernel
theorem dX6_readRow_1 : decode cX6_readRow 1 = .ok (.iload_n 1, 1) := by decide +kernel
theorem dX6_readRow_2 : decode cX6_readRow 2 = .ok (.invokevirtual 141, 3) := by decide +kernel
theorem dX6_readRow_5 : decode cX6_readRow 5 = .ok (.bipush 15, 2) := by decide +kernel
theorem dX6_readRow_7 : decode cX6_readRow 7 = .ok (.iand, 1) := by decide +kernel
theorem dX6_readRow_8 : decode cX6_readRow 8 = .ok (.iconst 2, 1) := by decide +kernel
theorem dX6_readRow_9 : decode cX6_readRow 9 = .ok (.if_icmp .ne 7, 3) := by decide +kernel
theorem dX6_readRow_12 : decode cX6_readRow 12 = .ok (.iconst 1, 1) := by decide +kernel
theorem dX6_readRow_13 : decode cX6_readRow 13 = .ok (.goto 4, 3) := by decide +kernel
theorem dX6_readRow_16 : decode cX6_readRow 16 = .ok (.iconst 0, 1) := by decide +kernel
theorem dX6_readRow_17 : decode cX6_readRow 17 = .ok (.istore 4, 2) := by decide +kernel
theorem dX6_readRow_19 : decode cX6_readRow 19 = .ok (.iconst 0, 1) := by decide +kernel
theorem dX6_readRow_20 : decode cX6_readRow 20 = .ok (.istore 5, 2) := by decide +kernel
theorem dX6_readRow_22 : decode cX6_readRow 22 = .ok (.iload 5, 2) := by decide +kernel
theorem dX6_readRow_24 : decode cX6_readRow 24 = .ok (.iload_n 3, 1) := by decide +kernel
theorem dX6_readRow_25 : decode cX6_readRow 25 = .ok (.if_icmp .ge 49, 3) := by decide +kernel
theorem dX6_readRow_28 : decode cX6_readRow 28 = .ok (.aload_n 0, 1) := by decide +kernel
theorem dX6_readRow_29 : decode cX6_readRow 29 = .ok (.bipush 25, 2) := by decide +kernel
theorem dX6_readRow_31 : decode cX6_readRow 31 = .ok (.iload_n 2, 1) := by decide +kernel
theorem dX6_readRow_32 : decode cX6_readRow 32 = .ok (.iload 5, 2) := by decide +kernel
theorem dX6_readRow_34 : decode cX6_readRow 34 = .ok (.iadd, 1) := by decide +kernel
theorem dX6_readRow_35 : decode cX6_readRow 35 = .ok (.iload 4, 2) := by decide +kernel
theorem dX6_readRow_37 : decode cX6_readRow 37 = .ok (.ifCond .eq 18, 3) := by decide +kernel
theorem dX6_readRow_40 : decode cX6_readRow 40 = .ok (.aload_n 0, 1) := by decide +kernel
theorem dX6_readRow_41 : decode cX6_readRow 41 = .ok (.iload_n 1, 1) := by decide +kernel
theorem dX6_readRow_42 : decode cX6_readRow 42 = .ok (.iconst 1, 1) := by decide +kernel
theorem dX6_readRow_43 : decode cX6_readRow 43 = .ok (.iadd, 1) := by decide +kernel
theorem dX6_readRow_44 : decode cX6_readRow 44 = .ok (.iconst 2, 1) := by decide +kernel
theorem dX6_readRow_45 : decode cX6_readRow 45 = .ok (.iload 5, 2) := by decide +kernel
theorem dX6_readRow_47 : decode cX6_readRow 47 = .ok (.imul, 1) := by decide +kernel
theorem dX6_readRow_48 : decode cX6_readRow 48 = .ok (.iadd, 1) := by decide +kernel
theorem dX6_readRow_49 : decode cX6_readRow 49 = .ok (.invokevirtual 144, 3) := by decide +kernel
theorem dX6_readRow_52 : decode cX6_readRow 52 = .ok (.goto 13, 3) := by decide +kernel
theorem dX6_readRow_55 : decode cX6_readRow 55 = .ok (.aload_n 0, 1) := by decide +kernel
theorem dX6_readRow_56 : decode cX6_readRow 56 = .ok (.iload_n 1, 1) := by decide +kernel
theorem dX6_readRow_57 : decode cX6_readRow 57 = .ok (.iconst 1, 1) := by decide +kernel
theorem dX6_readRow_58 : decode cX6_readRow 58 = .ok (.iadd, 1) := by decide +kernel
theorem dX6_readRow_59 : decode cX6_readRow 59 = .ok (.iload 5, 2) := by decide +kernel
theorem dX6_readRow_61 : decode cX6_readRow 61 = .ok (.iadd, 1) := by decide +kernel
theorem dX6_readRow_62 : decode cX6_readRow 62 = .ok (.invokevirtual 141, 3) := by decide +kernel
theorem dX6_readRow_65 : decode cX6_readRow 65 = .ok (.invokevirtual 29, 3) := by decide +kernel
theorem dX6_readRow_68 : decode cX6_readRow 68 = .ok (.iinc 5 1, 3) := by decide +kernel
theorem dX6_readRow_71 : decode cX6_readRow 71 = .ok (.goto (-49), 3) := by decide +kernel
theorem dX6_readRow_74 : decode cX6_readRow 74 = .ok (.iload_n 1, 1) := by decide +kernel
theorem dX6_readRow_75 : decode cX6_readRow 75 = .ok (.iconst 1, 1) := by decide +kernel
theorem dX6_readRow_76 : decode cX6_readRow 76 = .ok (.iadd, 1) := by decide +kernel
theorem dX6_readRow_77 : decode cX6_readRow 77 = .ok (.iload 4, 2) := by decide +kernel
theorem dX6_readRow_79 : decode cX6_readRow 79 = .ok (.ifCond .eq 9, 3) := by decide +kernel
theorem dX6_readRow_82 : decode cX6_readRow 82 = .ok (.iconst 2, 1) := by decide +kernel
theorem dX6_readRow_83 : decode cX6_readRow 83 = .ok (.iload_n 3, 1) := by decide +kernel
theorem dX6_readRow_84 : decode cX6_readRow 84 = .ok (.imul, 1) := by decide +kernel
theorem dX6_readRow_85 : decode cX6_readRow 85 = .ok (.goto 4, 3) := by decide +kernel
theorem dX6_readRow_88 : decode cX6_readRow 88 = .ok (.iload_n 3, 1) := by decide +kernel
theorem dX6_readRow_89 : decode cX6_readRow 89 = .ok (.iadd, 1) := by decide +kernel
theorem dX6_readRow_90 : decode cX6_readRow 90 = .ok (.ireturn, 1) := by decide +kernel
theorem dX6_baseOf_0 : decode cX6_baseOf 0 = .ok (.iload_n 0, 1) := by decide +kernel
theorem dX6_baseOf_1 : decode cX6_baseOf 1 = .ok (.bipush 67, 2) := by decide +kernel
theorem dX6_baseOf_3 : decode cX6_baseOf 3 = .ok (.if_icmp .ne 7, 3) := by decide +kernel
theorem dX6_baseOf_6 : decode cX6_baseOf 6 = .ok (.iconst 1, 1) := by decide +kernel
theorem dX6_baseOf_7 : decode cX6_baseOf 7 = .ok (.goto 24, 3) := by decide +kernel
theorem dX6_baseOf_10 : decode cX6_baseOf 10 = .ok (.iload_n 0, 1) := by decide +kernel
theorem dX6_baseOf_11 : decode cX6_baseOf 11 = .ok (.bipush 71, 2) := by decide +kernel
theorem dX6_baseOf_13 : decode cX6_baseOf 13 = .ok (.if_icmp .ne 7, 3) := by decide +kernel
theorem dX6_baseOf_16 : decode cX6_baseOf 16 = .ok (.iconst 2, 1) := by decide +kernel
theorem dX6_baseOf_17 : decode cX6_baseOf 17 = .ok (.goto 14, 3) := by decide +kernel
theorem dX6_baseOf_20 : decode cX6_baseOf 20 = .ok (.iload_n 0, 1) := by decide +kernel
theorem dX6_baseOf_21 : decode cX6_baseOf 21 = .ok (.bipush 84, 2) := by decide +kernel
theorem dX6_baseOf_23 : decode cX6_baseOf 23 = .ok (.if_icmp .ne 7, 3) := by decide +kernel
theorem dX6_baseOf_26 : decode cX6_baseOf 26 = .ok (.iconst 3, 1) := by decide +kernel
theorem dX6_baseOf_27 : decode cX6_baseOf 27 = .ok (.goto 4, 3) := by decide +kernel
theorem dX6_baseOf_30 : decode cX6_baseOf 30 = .ok (.iconst 0, 1) := by decide +kernel
theorem dX6_baseOf_31 : decode cX6_baseOf 31 = .ok (.ireturn, 1) := by decide +kernel
theorem dX6_taken_0 : decode cX6_taken 0 = .ok (.aload_n 0, 1) := by decide +kernel
theorem dX6_taken_1 : decode cX6_taken 1 = .ok (.bipush 25, 2) := by decide +kernel
theorem dX6_taken_3 : decode cX6_taken 3 = .ok (.aload_n 0, 1) := by decide +kernel
theorem dX6_taken_4 : decode cX6_taken 4 = .ok (.iconst 0, 1) := by decide +kernel
theorem dX6_taken_5 : decode cX6_taken 5 = .ok (.invokevirtual 144, 3) := by decide +kernel
theorem dX6_taken_8 : decode cX6_taken 8 = .ok (.invokevirtual 53, 3) := by decide +kernel
theorem dX6_taken_11 : decode cX6_taken 11 = .ok (.aload_n 0, 1) := by decide +kernel
theorem dX6_taken_12 : decode cX6_taken 12 = .ok (.bipush 25, 2) := by decide +kernel
theorem dX6_taken_14 : decode cX6_taken 14 = .ok (.bipush 10, 2) := by decide +kernel
theorem dX6_taken_16 : decode cX6_taken 16 = .ok (.aload_n 0, 1) := by decide +kernel
theorem dX6_taken_17 : decode cX6_taken 17 = .ok (.iconst 2, 1) := by decide +kernel
theorem dX6_taken_18 : decode cX6_taken 18 = .ok (.invokevirtual 144, 3) := by decide +kernel
theorem dX6_taken_21 : decode cX6_taken 21 = .ok (.invokevirtual 29, 3) := by decide +kernel
theorem dX6_taken_24 : decode cX6_taken 24 = .ok (.aload_n 0, 1) := by decide +kernel
theorem dX6_taken_25 : decode cX6_taken 25 = .ok (.iconst 4, 1) := by decide +kernel
theorem dX6_taken_26 : decode cX6_taken 26 = .ok (.invokevirtual 141, 3) := by decide +kernel
theorem dX6_taken_29 : decode cX6_taken 29 = .ok (.istore_n 1, 1) := by decide +kernel
theorem dX6_taken_30 : decode cX6_taken 30 = .ok (.iconst 5, 1) := by decide +kernel
theorem dX6_taken_31 : decode cX6_taken 31 = .ok (.istore_n 2, 1) := by decide +kernel
theorem dX6_taken_32 : decode cX6_taken 32 = .ok (.iload_n 1, 1) := by decide +kernel
theorem dX6_taken_33 : decode cX6_taken 33 = .ok (.iconst 2, 1) := by decide +kernel
theorem dX6_taken_34 : decode cX6_taken 34 = .ok (.if_icmp .lt 19, 3) := by decide +kernel
theorem dX6_taken_37 : decode cX6_taken 37 = .ok (.iload_n 1, 1) := by decide +kernel
theorem dX6_taken_38 : decode cX6_taken 38 = .ok (.iconst 4, 1) := by decide +kernel
theorem dX6_taken_39 : decode cX6_taken 39 = .ok (.if_icmp .gt 14, 3) := by decide +kernel
theorem dX6_taken_42 : decode cX6_taken 42 = .ok (.aload_n 0, 1) := by decide +kernel
theorem dX6_taken_43 : decode cX6_taken 43 = .ok (.iconst 2, 1) := by decide +kernel
theorem dX6_taken_44 : decode cX6_taken 44 = .ok (.invokevirtual 144, 3) := by decide +kernel
theorem dX6_taken_47 : decode cX6_taken 47 = .ok (.sipush 8000, 3) := by decide +kernel
theorem dX6_taken_50 : decode cX6_taken 50 = .ok (.if_icmp .le 5, 3) := by decide +kernel
theorem dX6_taken_53 : decode cX6_taken 53 = .ok (.iconst 0, 1) := by decide +kernel
theorem dX6_taken_54 : decode cX6_taken 54 = .ok (.ireturn, 1) := by decide +kernel
theorem dX6_taken_55 : decode cX6_taken 55 = .ok (.iconst 0, 1) := by decide +kernel
theorem dX6_taken_56 : decode cX6_taken 56 = .ok (.istore_n 3, 1) := by decide +kernel
theorem dX6_taken_57 : decode cX6_taken 57 = .ok (.iload_n 3, 1) := by decide +kernel
theorem dX6_taken_58 : decode cX6_taken 58 = .ok (.iload_n 1, 1) := by decide +kernel
theorem dX6_taken_59 : decode cX6_taken 59 = .ok (.if_icmp .ge 104, 3) := by decide +kernel
theorem dX6_taken_62 : decode cX6_taken 62 = .ok (.aload_n 0, 1) := by decide +kernel
theorem dX6_taken_63 : decode cX6_taken 63 = .ok (.iload_n 2, 1) := by decide +kernel
theorem dX6_taken_64 : decode cX6_taken 64 = .ok (.invokevirtual 141, 3) := by decide +kernel
theorem dX6_taken_67 : decode cX6_taken 67 = .ok (.iconst 4, 1) := by decide +kernel
theorem dX6_taken_68 : decode cX6_taken 68 = .ok (.ishr, 1) := by decide +kernel
theorem dX6_taken_69 : decode cX6_taken 69 = .ok (.istore 4, 2) := by decide +kernel
theorem dX6_taken_71 : decode cX6_taken 71 = .ok (.iload 4, 2) := by decide +kernel
theorem dX6_taken_73 : decode cX6_taken 73 = .ok (.iconst 1, 1) := by decide +kernel
theorem dX6_taken_74 : decode cX6_taken 74 = .ok (.if_icmp .lt 10, 3) := by decide +kernel
theorem dX6_taken_77 : decode cX6_taken 77 = .ok (.iload 4, 2) := by decide +kernel
theorem dX6_taken_79 : decode cX6_taken 79 = .ok (.bipush 8, 2) := by decide +kernel
theorem dX6_taken_81 : decode cX6_taken 81 = .ok (.if_icmp .le 5, 3) := by decide +kernel
theorem dX6_taken_84 : decode cX6_taken 84 = .ok (.iconst 0, 1) := by decide +kernel
theorem dX6_taken_85 : decode cX6_taken 85 = .ok (.ireturn, 1) := by decide +kernel
theorem dX6_taken_86 : decode cX6_taken 86 = .ok (.iconst 0, 1) := by decide +kernel
theorem dX6_taken_87 : decode cX6_taken 87 = .ok (.istore 5, 2) := by decide +kernel
theorem dX6_taken_89 : decode cX6_taken 89 = .ok (.iconst 0, 1) := by decide +kernel
theorem dX6_taken_90 : decode cX6_taken 90 = .ok (.istore 6, 2) := by decide +kernel
theorem dX6_taken_92 : decode cX6_taken 92 = .ok (.iload 6, 2) := by decide +kernel
theorem dX6_taken_94 : decode cX6_taken 94 = .ok (.iload 4, 2) := by decide +kernel
theorem dX6_taken_96 : decode cX6_taken 96 = .ok (.if_icmp .ge 29, 3) := by decide +kernel
theorem dX6_taken_99 : decode cX6_taken 99 = .ok (.iconst 4, 1) := by decide +kernel
theorem dX6_taken_100 : decode cX6_taken 100 = .ok (.iload 5, 2) := by decide +kernel
theorem dX6_taken_102 : decode cX6_taken 102 = .ok (.imul, 1) := by decide +kernel
theorem dX6_taken_103 : decode cX6_taken 103 = .ok (.aload_n 0, 1) := by decide +kernel
theorem dX6_taken_104 : decode cX6_taken 104 = .ok (.iload_n 2, 1) := by decide +kernel
theorem dX6_taken_105 : decode cX6_taken 105 = .ok (.iconst 1, 1) := by decide +kernel
theorem dX6_taken_106 : decode cX6_taken 106 = .ok (.iadd, 1) := by decide +kernel
theorem dX6_taken_107 : decode cX6_taken 107 = .ok (.iload 6, 2) := by decide +kernel
theorem dX6_taken_109 : decode cX6_taken 109 = .ok (.iadd, 1) := by decide +kernel
theorem dX6_taken_110 : decode cX6_taken 110 = .ok (.invokevirtual 141, 3) := by decide +kernel
theorem dX6_taken_113 : decode cX6_taken 113 = .ok (.invokestatic 147, 3) := by decide +kernel
theorem dX6_taken_116 : decode cX6_taken 116 = .ok (.iadd, 1) := by decide +kernel
theorem dX6_taken_117 : decode cX6_taken 117 = .ok (.istore 5, 2) := by decide +kernel
theorem dX6_taken_119 : decode cX6_taken 119 = .ok (.iinc 6 1, 3) := by decide +kernel
theorem dX6_taken_122 : decode cX6_taken 122 = .ok (.goto (-30), 3) := by decide +kernel
theorem dX6_taken_125 : decode cX6_taken 125 = .ok (.aload_n 0, 1) := by decide +kernel
theorem dX6_taken_126 : decode cX6_taken 126 = .ok (.bipush 25, 2) := by decide +kernel
theorem dX6_taken_128 : decode cX6_taken 128 = .ok (.iload 4, 2) := by decide +kernel
theorem dX6_taken_130 : decode cX6_taken 130 = .ok (.iload 5, 2) := by decide +kernel
theorem dX6_taken_132 : decode cX6_taken 132 = .ok (.invokevirtual 63, 3) := by decide +kernel
theorem dX6_taken_135 : decode cX6_taken 135 = .ok (.ifCond .lt 5, 3) := by decide +kernel
theorem dX6_taken_138 : decode cX6_taken 138 = .ok (.iconst 0, 1) := by decide +kernel
theorem dX6_taken_139 : decode cX6_taken 139 = .ok (.ireturn, 1) := by decide +kernel
theorem dX6_taken_140 : decode cX6_taken 140 = .ok (.aload_n 0, 1) := by decide +kernel
theorem dX6_taken_141 : decode cX6_taken 141 = .ok (.bipush 25, 2) := by decide +kernel
theorem dX6_taken_143 : decode cX6_taken 143 = .ok (.iload 4, 2) := by decide +kernel
theorem dX6_taken_145 : decode cX6_taken 145 = .ok (.iload 5, 2) := by decide +kernel
theorem dX6_taken_147 : decode cX6_taken 147 = .ok (.invokevirtual 60, 3) := by decide +kernel
theorem dX6_taken_150 : decode cX6_taken 150 = .ok (.iload_n 2, 1) := by decide +kernel
theorem dX6_taken_151 : decode cX6_taken 151 = .ok (.iconst 1, 1) := by decide +kernel
theorem dX6_taken_152 : decode cX6_taken 152 = .ok (.iadd, 1) := by decide +kernel
theorem dX6_taken_153 : decode cX6_taken 153 = .ok (.iload 4, 2) := by decide +kernel
theorem dX6_taken_155 : decode cX6_taken 155 = .ok (.iadd, 1) := by decide +kernel
theorem dX6_taken_156 : decode cX6_taken 156 = .ok (.istore_n 2, 1) := by decide +kernel
theorem dX6_taken_157 : decode cX6_taken 157 = .ok (.iinc 3 1, 3) := by decide +kernel
theorem dX6_taken_160 : decode cX6_taken 160 = .ok (.goto (-103), 3) := by decide +kernel
theorem dX6_taken_163 : decode cX6_taken 163 = .ok (.aload_n 0, 1) := by decide +kernel
theorem dX6_taken_164 : decode cX6_taken 164 = .ok (.iload_n 2, 1) := by decide +kernel
theorem dX6_taken_165 : decode cX6_taken 165 = .ok (.bipush 11, 2) := by decide +kernel
theorem dX6_taken_167 : decode cX6_taken 167 = .ok (.iload_n 1, 1) := by decide +kernel
theorem dX6_taken_168 : decode cX6_taken 168 = .ok (.invokevirtual 150, 3) := by decide +kernel
theorem dX6_taken_171 : decode cX6_taken 171 = .ok (.istore_n 2, 1) := by decide +kernel
theorem dX6_taken_172 : decode cX6_taken 172 = .ok (.iconst 0, 1) := by decide +kernel
theorem dX6_taken_173 : decode cX6_taken 173 = .ok (.istore_n 3, 1) := by decide +kernel
theorem dX6_taken_174 : decode cX6_taken 174 = .ok (.iload_n 3, 1) := by decide +kernel
theorem dX6_taken_175 : decode cX6_taken 175 = .ok (.iconst 2, 1) := by decide +kernel
theorem dX6_taken_176 : decode cX6_taken 176 = .ok (.if_icmp .ge 95, 3) := by decide +kernel
theorem dX6_taken_179 : decode cX6_taken 179 = .ok (.iconst 0, 1) := by decide +kernel
theorem dX6_taken_180 : decode cX6_taken 180 = .ok (.istore 4, 2) := by decide +kernel
theorem dX6_taken_182 : decode cX6_taken 182 = .ok (.iload 4, 2) := by decide +kernel
theorem dX6_taken_184 : decode cX6_taken 184 = .ok (.iconst 2, 1) := by decide +kernel
theorem dX6_taken_185 : decode cX6_taken 185 = .ok (.if_icmp .ge 38, 3) := by decide +kernel
theorem dX6_taken_188 : decode cX6_taken 188 = .ok (.aload_n 0, 1) := by decide +kernel
theorem dX6_taken_189 : decode cX6_taken 189 = .ok (.bipush 25, 2) := by decide +kernel
theorem dX6_taken_191 : decode cX6_taken 191 = .ok (.bipush 15, 2) := by decide +kernel
theorem dX6_taken_193 : decode cX6_taken 193 = .ok (.iconst 3, 1) := by decide +kernel
theorem dX6_taken_194 : decode cX6_taken 194 = .ok (.iload_n 3, 1) := by decide +kernel
theorem dX6_taken_195 : decode cX6_taken 195 = .ok (.imul, 1) := by decide +kernel
theorem dX6_taken_196 : decode cX6_taken 196 = .ok (.iadd, 1) := by decide +kernel
theorem dX6_taken_197 : decode cX6_taken 197 = .ok (.iload 4, 2) := by decide +kernel
theorem dX6_taken_199 : decode cX6_taken 199 = .ok (.iadd, 1) := by decide +kernel
theorem dX6_taken_200 : decode cX6_taken 200 = .ok (.aload_n 0, 1) := by decide +kernel
theorem dX6_taken_201 : decode cX6_taken 201 = .ok (.iload_n 2, 1) := by decide +kernel
theorem dX6_taken_202 : decode cX6_taken 202 = .ok (.iconst 1, 1) := by decide +kernel
theorem dX6_taken_203 : decode cX6_taken 203 = .ok (.iadd, 1) := by decide +kernel
theorem dX6_taken_204 : decode cX6_taken 204 = .ok (.iload 4, 2) := by decide +kernel
theorem dX6_taken_206 : decode cX6_taken 206 = .ok (.iadd, 1) := by decide +kernel
theorem dX6_taken_207 : decode cX6_taken 207 = .ok (.invokevirtual 141, 3) := by decide +kernel
theorem dX6_taken_210 : decode cX6_taken 210 = .ok (.iconst 2, 1) := by decide +kernel
theorem dX6_taken_211 : decode cX6_taken 211 = .ok (.idiv, 1) := by decide +kernel
theorem dX6_taken_212 : decode cX6_taken 212 = .ok (.iconst 1, 1) := by decide +kernel
theorem dX6_taken_213 : decode cX6_taken 213 = .ok (.isub, 1) := by decide +kernel
theorem dX6_taken_214 : decode cX6_taken 214 = .ok (.invokevirtual 29, 3) := by decide +kernel
theorem dX6_taken_217 : decode cX6_taken 217 = .ok (.iinc 4 1, 3) := by decide +kernel
theorem dX6_taken_220 : decode cX6_taken 220 = .ok (.goto (-38), 3) := by decide +kernel
theorem dX6_taken_223 : decode cX6_taken 223 = .ok (.aload_n 0, 1) := by decide +kernel
theorem dX6_taken_224 : decode cX6_taken 224 = .ok (.bipush 25, 2) := by decide +kernel
theorem dX6_taken_226 : decode cX6_taken 226 = .ok (.bipush 15, 2) := by decide +kernel
theorem dX6_taken_228 : decode cX6_taken 228 = .ok (.iconst 3, 1) := by decide +kernel
theorem dX6_taken_229 : decode cX6_taken 229 = .ok (.iload_n 3, 1) := by decide +kernel
theorem dX6_taken_230 : decode cX6_taken 230 = .ok (.imul, 1) := by decide +kernel
theorem dX6_taken_231 : decode cX6_taken 231 = .ok (.iadd, 1) := by decide +kernel
theorem dX6_taken_232 : decode cX6_taken 232 = .ok (.iconst 2, 1) := by decide +kernel
theorem dX6_taken_233 : decode cX6_taken 233 = .ok (.iadd, 1) := by decide +kernel
theorem dX6_taken_234 : decode cX6_taken 234 = .ok (.aload_n 0, 1) := by decide +kernel
theorem dX6_taken_235 : decode cX6_taken 235 = .ok (.iload_n 2, 1) := by decide +kernel
theorem dX6_taken_236 : decode cX6_taken 236 = .ok (.iconst 1, 1) := by decide +kernel
theorem dX6_taken_237 : decode cX6_taken 237 = .ok (.iadd, 1) := by decide +kernel
theorem dX6_taken_238 : decode cX6_taken 238 = .ok (.invokevirtual 141, 3) := by decide +kernel
theorem dX6_taken_241 : decode cX6_taken 241 = .ok (.iconst 2, 1) := by decide +kernel
theorem dX6_taken_242 : decode cX6_taken 242 = .ok (.irem, 1) := by decide +kernel
theorem dX6_taken_243 : decode cX6_taken 243 = .ok (.invokevirtual 29, 3) := by decide +kernel
theorem dX6_taken_246 : decode cX6_taken 246 = .ok (.aload_n 0, 1) := by decide +kernel
theorem dX6_taken_247 : decode cX6_taken 247 = .ok (.iload_n 2, 1) := by decide +kernel
theorem dX6_taken_248 : decode cX6_taken 248 = .ok (.iconst 3, 1) := by decide +kernel
theorem dX6_taken_249 : decode cX6_taken 249 = .ok (.iadd, 1) := by decide +kernel
theorem dX6_taken_250 : decode cX6_taken 250 = .ok (.bipush 21, 2) := by decide +kernel
theorem dX6_taken_252 : decode cX6_taken 252 = .ok (.bipush 10, 2) := by decide +kernel
theorem dX6_taken_254 : decode cX6_taken 254 = .ok (.iload_n 3, 1) := by decide +kernel
theorem dX6_taken_255 : decode cX6_taken 255 = .ok (.imul, 1) := by decide +kernel
theorem dX6_taken_256 : decode cX6_taken 256 = .ok (.iadd, 1) := by decide +kernel
theorem dX6_taken_257 : decode cX6_taken 257 = .ok (.iload_n 1, 1) := by decide +kernel
theorem dX6_taken_258 : decode cX6_taken 258 = .ok (.invokestatic 70, 3) := by decide +kernel
theorem dX6_taken_261 : decode cX6_taken 261 = .ok (.invokevirtual 150, 3) := by decide +kernel
theorem dX6_taken_264 : decode cX6_taken 264 = .ok (.istore_n 2, 1) := by decide +kernel
theorem dX6_taken_265 : decode cX6_taken 265 = .ok (.iinc 3 1, 3) := by decide +kernel
theorem dX6_taken_268 : decode cX6_taken 268 = .ok (.goto (-94), 3) := by decide +kernel
theorem dX6_taken_271 : decode cX6_taken 271 = .ok (.aload_n 0, 1) := by decide +kernel
theorem dX6_taken_272 : decode cX6_taken 272 = .ok (.iload_n 1, 1) := by decide +kernel
theorem dX6_taken_273 : decode cX6_taken 273 = .ok (.invokevirtual 153, 3) := by decide +kernel
theorem dX6_taken_276 : decode cX6_taken 276 = .ok (.ireturn, 1) := by decide +kernel
theorem dX6_inRange_0 : decode cX6_inRange 0 = .ok (.aload_n 0, 1) := by decide +kernel
theorem dX6_inRange_1 : decode cX6_inRange 1 = .ok (.bipush 25, 2) := by decide +kernel
theorem dX6_inRange_3 : decode cX6_inRange 3 = .ok (.iconst 0, 1) := by decide +kernel
theorem dX6_inRange_4 : decode cX6_inRange 4 = .ok (.invokevirtual 33, 3) := by decide +kernel
theorem dX6_inRange_7 : decode cX6_inRange 7 = .ok (.iconst 1, 1) := by decide +kernel
theorem dX6_inRange_8 : decode cX6_inRange 8 = .ok (.if_icmp .lt 31, 3) := by decide +kernel
theorem dX6_inRange_11 : decode cX6_inRange 11 = .ok (.aload_n 0, 1) := by decide +kernel
theorem dX6_inRange_12 : decode cX6_inRange 12 = .ok (.bipush 25, 2) := by decide +kernel
theorem dX6_inRange_14 : decode cX6_inRange 14 = .ok (.iconst 0, 1) := by decide +kernel
theorem dX6_inRange_15 : decode cX6_inRange 15 = .ok (.invokevirtual 33, 3) := by decide +kernel
theorem dX6_inRange_18 : decode cX6_inRange 18 = .ok (.aload_n 0, 1) := by decide +kernel
theorem dX6_inRange_19 : decode cX6_inRange 19 = .ok (.bipush 25, 2) := by decide +kernel
theorem dX6_inRange_21 : decode cX6_inRange 21 = .ok (.iconst 2, 1) := by decide +kernel
theorem dX6_inRange_22 : decode cX6_inRange 22 = .ok (.invokevirtual 33, 3) := by decide +kernel
theorem dX6_inRange_25 : decode cX6_inRange 25 = .ok (.iadd, 1) := by decide +kernel
theorem dX6_inRange_26 : decode cX6_inRange 26 = .ok (.iconst 1, 1) := by decide +kernel
theorem dX6_inRange_27 : decode cX6_inRange 27 = .ok (.isub, 1) := by decide +kernel
theorem dX6_inRange_28 : decode cX6_inRange 28 = .ok (.aload_n 0, 1) := by decide +kernel
theorem dX6_inRange_29 : decode cX6_inRange 29 = .ok (.getfield 37, 3) := by decide +kernel
theorem dX6_inRange_32 : decode cX6_inRange 32 = .ok (.if_icmp .gt 7, 3) := by decide +kernel
theorem dX6_inRange_35 : decode cX6_inRange 35 = .ok (.iconst 1, 1) := by decide +kernel
theorem dX6_inRange_36 : decode cX6_inRange 36 = .ok (.goto 4, 3) := by decide +kernel
theorem dX6_inRange_39 : decode cX6_inRange 39 = .ok (.iconst 0, 1) := by decide +kernel
theorem dX6_inRange_40 : decode cX6_inRange 40 = .ok (.istore_n 2, 1) := by decide +kernel
theorem dX6_inRange_41 : decode cX6_inRange 41 = .ok (.iconst 0, 1) := by decide +kernel
theorem dX6_inRange_42 : decode cX6_inRange 42 = .ok (.istore_n 3, 1) := by decide +kernel
theorem dX6_inRange_43 : decode cX6_inRange 43 = .ok (.iload_n 3, 1) := by decide +kernel
theorem dX6_inRange_44 : decode cX6_inRange 44 = .ok (.iload_n 1, 1) := by decide +kernel
theorem dX6_inRange_45 : decode cX6_inRange 45 = .ok (.if_icmp .ge 35, 3) := by decide +kernel
theorem dX6_inRange_48 : decode cX6_inRange 48 = .ok (.iload_n 2, 1) := by decide +kernel
theorem dX6_inRange_49 : decode cX6_inRange 49 = .ok (.ifCond .eq 23, 3) := by decide +kernel
theorem dX6_inRange_52 : decode cX6_inRange 52 = .ok (.aload_n 0, 1) := by decide +kernel
theorem dX6_inRange_53 : decode cX6_inRange 53 = .ok (.bipush 25, 2) := by decide +kernel
theorem dX6_inRange_55 : decode cX6_inRange 55 = .ok (.bipush 11, 2) := by decide +kernel
theorem dX6_inRange_57 : decode cX6_inRange 57 = .ok (.iload_n 3, 1) := by decide +kernel
theorem dX6_inRange_58 : decode cX6_inRange 58 = .ok (.iadd, 1) := by decide +kernel
theorem dX6_inRange_59 : decode cX6_inRange 59 = .ok (.invokevirtual 33, 3) := by decide +kernel
theorem dX6_inRange_62 : decode cX6_inRange 62 = .ok (.sipush 9999, 3) := by decide +kernel
theorem dX6_inRange_65 : decode cX6_inRange 65 = .ok (.if_icmp .gt 7, 3) := by decide +kernel
theorem dX6_inRange_68 : decode cX6_inRange 68 = .ok (.iconst 1, 1) := by decide +kernel
theorem dX6_inRange_69 : decode cX6_inRange 69 = .ok (.goto 4, 3) := by decide +kernel
theorem dX6_inRange_72 : decode cX6_inRange 72 = .ok (.iconst 0, 1) := by decide +kernel
theorem dX6_inRange_73 : decode cX6_inRange 73 = .ok (.istore_n 2, 1) := by decide +kernel
theorem dX6_inRange_74 : decode cX6_inRange 74 = .ok (.iinc 3 1, 3) := by decide +kernel
theorem dX6_inRange_77 : decode cX6_inRange 77 = .ok (.goto (-34), 3) := by decide +kernel
theorem dX6_inRange_80 : decode cX6_inRange 80 = .ok (.iconst 0, 1) := by decide +kernel
theorem dX6_inRange_81 : decode cX6_inRange 81 = .ok (.istore_n 3, 1) := by decide +kernel
theorem dX6_inRange_82 : decode cX6_inRange 82 = .ok (.iload_n 3, 1) := by decide +kernel
theorem dX6_inRange_83 : decode cX6_inRange 83 = .ok (.iconst 2, 1) := by decide +kernel
theorem dX6_inRange_84 : decode cX6_inRange 84 = .ok (.if_icmp .ge 101, 3) := by decide +kernel
theorem dX6_inRange_87 : decode cX6_inRange 87 = .ok (.iload_n 2, 1) := by decide +kernel
theorem dX6_inRange_88 : decode cX6_inRange 88 = .ok (.ifCond .eq 41, 3) := by decide +kernel
theorem dX6_inRange_91 : decode cX6_inRange 91 = .ok (.aload_n 0, 1) := by decide +kernel
theorem dX6_inRange_92 : decode cX6_inRange 92 = .ok (.bipush 25, 2) := by decide +kernel
theorem dX6_inRange_94 : decode cX6_inRange 94 = .ok (.bipush 15, 2) := by decide +kernel
theorem dX6_inRange_96 : decode cX6_inRange 96 = .ok (.iconst 3, 1) := by decide +kernel
theorem dX6_inRange_97 : decode cX6_inRange 97 = .ok (.iload_n 3, 1) := by decide +kernel
theorem dX6_inRange_98 : decode cX6_inRange 98 = .ok (.imul, 1) := by decide +kernel
theorem dX6_inRange_99 : decode cX6_inRange 99 = .ok (.iadd, 1) := by decide +kernel
theorem dX6_inRange_100 : decode cX6_inRange 100 = .ok (.invokevirtual 33, 3) := by decide +kernel
theorem dX6_inRange_103 : decode cX6_inRange 103 = .ok (.iload_n 1, 1) := by decide +kernel
theorem dX6_inRange_104 : decode cX6_inRange 104 = .ok (.if_icmp .ge 25, 3) := by decide +kernel
theorem dX6_inRange_107 : decode cX6_inRange 107 = .ok (.aload_n 0, 1) := by decide +kernel
theorem dX6_inRange_108 : decode cX6_inRange 108 = .ok (.bipush 25, 2) := by decide +kernel
theorem dX6_inRange_110 : decode cX6_inRange 110 = .ok (.bipush 15, 2) := by decide +kernel
theorem dX6_inRange_112 : decode cX6_inRange 112 = .ok (.iconst 3, 1) := by decide +kernel
theorem dX6_inRange_113 : decode cX6_inRange 113 = .ok (.iload_n 3, 1) := by decide +kernel
theorem dX6_inRange_114 : decode cX6_inRange 114 = .ok (.imul, 1) := by decide +kernel
theorem dX6_inRange_115 : decode cX6_inRange 115 = .ok (.iadd, 1) := by decide +kernel
theorem dX6_inRange_116 : decode cX6_inRange 116 = .ok (.iconst 1, 1) := by decide +kernel
theorem dX6_inRange_117 : decode cX6_inRange 117 = .ok (.iadd, 1) := by decide +kernel
theorem dX6_inRange_118 : decode cX6_inRange 118 = .ok (.invokevirtual 33, 3) := by decide +kernel
theorem dX6_inRange_121 : decode cX6_inRange 121 = .ok (.iload_n 1, 1) := by decide +kernel
theorem dX6_inRange_122 : decode cX6_inRange 122 = .ok (.if_icmp .ge 7, 3) := by decide +kernel
theorem dX6_inRange_125 : decode cX6_inRange 125 = .ok (.iconst 1, 1) := by decide +kernel
theorem dX6_inRange_126 : decode cX6_inRange 126 = .ok (.goto 4, 3) := by decide +kernel
theorem dX6_inRange_129 : decode cX6_inRange 129 = .ok (.iconst 0, 1) := by decide +kernel
theorem dX6_inRange_130 : decode cX6_inRange 130 = .ok (.istore_n 2, 1) := by decide +kernel
theorem dX6_inRange_131 : decode cX6_inRange 131 = .ok (.iconst 0, 1) := by decide +kernel
theorem dX6_inRange_132 : decode cX6_inRange 132 = .ok (.istore 4, 2) := by decide +kernel
theorem dX6_inRange_134 : decode cX6_inRange 134 = .ok (.iload 4, 2) := by decide +kernel
theorem dX6_inRange_136 : decode cX6_inRange 136 = .ok (.bipush 10, 2) := by decide +kernel
theorem dX6_inRange_138 : decode cX6_inRange 138 = .ok (.if_icmp .ge 41, 3) := by decide +kernel
theorem dX6_inRange_141 : decode cX6_inRange 141 = .ok (.iload_n 2, 1) := by decide +kernel
theorem dX6_inRange_142 : decode cX6_inRange 142 = .ok (.ifCond .eq 29, 3) := by decide +kernel
theorem dX6_inRange_145 : decode cX6_inRange 145 = .ok (.aload_n 0, 1) := by decide +kernel
theorem dX6_inRange_146 : decode cX6_inRange 146 = .ok (.bipush 25, 2) := by decide +kernel
theorem dX6_inRange_148 : decode cX6_inRange 148 = .ok (.bipush 21, 2) := by decide +kernel
theorem dX6_inRange_150 : decode cX6_inRange 150 = .ok (.bipush 10, 2) := by decide +kernel
theorem dX6_inRange_152 : decode cX6_inRange 152 = .ok (.iload_n 3, 1) := by decide +kernel
theorem dX6_inRange_153 : decode cX6_inRange 153 = .ok (.imul, 1) := by decide +kernel
theorem dX6_inRange_154 : decode cX6_inRange 154 = .ok (.iadd, 1) := by decide +kernel
theorem dX6_inRange_155 : decode cX6_inRange 155 = .ok (.iload 4, 2) := by decide +kernel
theorem dX6_inRange_157 : decode cX6_inRange 157 = .ok (.iadd, 1) := by decide +kernel
theorem dX6_inRange_158 : decode cX6_inRange 158 = .ok (.invokevirtual 33, 3) := by decide +kernel
theorem dX6_inRange_161 : decode cX6_inRange 161 = .ok (.sipush 999, 3) := by decide +kernel
theorem dX6_inRange_164 : decode cX6_inRange 164 = .ok (.if_icmp .gt 7, 3) := by decide +kernel
theorem dX6_inRange_167 : decode cX6_inRange 167 = .ok (.iconst 1, 1) := by decide +kernel
theorem dX6_inRange_168 : decode cX6_inRange 168 = .ok (.goto 4, 3) := by decide +kernel
theorem dX6_inRange_171 : decode cX6_inRange 171 = .ok (.iconst 0, 1) := by decide +kernel
theorem dX6_inRange_172 : decode cX6_inRange 172 = .ok (.istore_n 2, 1) := by decide +kernel
theorem dX6_inRange_173 : decode cX6_inRange 173 = .ok (.iinc 4 1, 3) := by decide +kernel
theorem dX6_inRange_176 : decode cX6_inRange 176 = .ok (.goto (-42), 3) := by decide +kernel
theorem dX6_inRange_179 : decode cX6_inRange 179 = .ok (.iinc 3 1, 3) := by decide +kernel
theorem dX6_inRange_182 : decode cX6_inRange 182 = .ok (.goto (-100), 3) := by decide +kernel
theorem dX6_inRange_185 : decode cX6_inRange 185 = .ok (.iload_n 2, 1) := by decide +kernel
theorem dX6_inRange_186 : decode cX6_inRange 186 = .ok (.ifCond .eq 36, 3) := by decide +kernel
theorem dX6_inRange_189 : decode cX6_inRange 189 = .ok (.aload_n 0, 1) := by decide +kernel
theorem dX6_inRange_190 : decode cX6_inRange 190 = .ok (.aload_n 0, 1) := by decide +kernel
theorem dX6_inRange_191 : decode cX6_inRange 191 = .ok (.bipush 25, 2) := by decide +kernel
theorem dX6_inRange_193 : decode cX6_inRange 193 = .ok (.iconst 0, 1) := by decide +kernel
theorem dX6_inRange_194 : decode cX6_inRange 194 = .ok (.invokevirtual 33, 3) := by decide +kernel
theorem dX6_inRange_197 : decode cX6_inRange 197 = .ok (.aload_n 0, 1) := by decide +kernel
theorem dX6_inRange_198 : decode cX6_inRange 198 = .ok (.bipush 25, 2) := by decide +kernel
theorem dX6_inRange_200 : decode cX6_inRange 200 = .ok (.iconst 2, 1) := by decide +kernel
theorem dX6_inRange_201 : decode cX6_inRange 201 = .ok (.invokevirtual 33, 3) := by decide +kernel
theorem dX6_inRange_204 : decode cX6_inRange 204 = .ok (.invokevirtual 57, 3) := by decide +kernel
theorem dX6_inRange_207 : decode cX6_inRange 207 = .ok (.aload_n 0, 1) := by decide +kernel
theorem dX6_inRange_208 : decode cX6_inRange 208 = .ok (.bipush 25, 2) := by decide +kernel
theorem dX6_inRange_210 : decode cX6_inRange 210 = .ok (.bipush 6, 2) := by decide +kernel
theorem dX6_inRange_212 : decode cX6_inRange 212 = .ok (.invokevirtual 33, 3) := by decide +kernel
theorem dX6_inRange_215 : decode cX6_inRange 215 = .ok (.if_icmp .ne 7, 3) := by decide +kernel
theorem dX6_inRange_218 : decode cX6_inRange 218 = .ok (.iconst 1, 1) := by decide +kernel
theorem dX6_inRange_219 : decode cX6_inRange 219 = .ok (.goto 4, 3) := by decide +kernel
theorem dX6_inRange_222 : decode cX6_inRange 222 = .ok (.iconst 0, 1) := by decide +kernel
theorem dX6_inRange_223 : decode cX6_inRange 223 = .ok (.ireturn, 1) := by decide +kernel
theorem dX6_read_0 : decode cX6_read 0 = .ok (.aload_n 0, 1) := by decide +kernel
theorem dX6_read_1 : decode cX6_read 1 = .ok (.getfield 44, 3) := by decide +kernel
theorem dX6_read_4 : decode cX6_read 4 = .ok (.bipush 24, 2) := by decide +kernel
theorem dX6_read_6 : decode cX6_read 6 = .ok (.if_icmp .ne 7, 3) := by decide +kernel
theorem dX6_read_9 : decode cX6_read 9 = .ok (.iconst 1, 1) := by decide +kernel
theorem dX6_read_10 : decode cX6_read 10 = .ok (.goto 4, 3) := by decide +kernel
theorem dX6_read_13 : decode cX6_read 13 = .ok (.iconst 0, 1) := by decide +kernel
theorem dX6_read_14 : decode cX6_read 14 = .ok (.istore_n 1, 1) := by decide +kernel
theorem dX6_read_15 : decode cX6_read 15 = .ok (.iload_n 1, 1) := by decide +kernel
theorem dX6_read_16 : decode cX6_read 16 = .ok (.ifCond .ne 14, 3) := by decide +kernel
theorem dX6_read_19 : decode cX6_read 19 = .ok (.aload_n 0, 1) := by decide +kernel
theorem dX6_read_20 : decode cX6_read 20 = .ok (.invokevirtual 156, 3) := by decide +kernel
theorem dX6_read_23 : decode cX6_read 23 = .ok (.ifCond .eq 7, 3) := by decide +kernel
theorem dX6_read_26 : decode cX6_read 26 = .ok (.iconst 1, 1) := by decide +kernel
theorem dX6_read_27 : decode cX6_read 27 = .ok (.goto 4, 3) := by decide +kernel
theorem dX6_read_30 : decode cX6_read 30 = .ok (.iconst 0, 1) := by decide +kernel
theorem dX6_read_31 : decode cX6_read 31 = .ok (.istore_n 2, 1) := by decide +kernel
theorem dX6_read_32 : decode cX6_read 32 = .ok (.iload_n 2, 1) := by decide +kernel
theorem dX6_read_33 : decode cX6_read 33 = .ok (.ifCond .eq 9, 3) := by decide +kernel
theorem dX6_read_36 : decode cX6_read 36 = .ok (.aload_n 0, 1) := by decide +kernel
theorem dX6_read_37 : decode cX6_read 37 = .ok (.bipush 25, 2) := by decide +kernel
theorem dX6_read_39 : decode cX6_read 39 = .ok (.invokevirtual 133, 3) := by decide +kernel
theorem dX6_read_42 : decode cX6_read 42 = .ok (.iload_n 2, 1) := by decide +kernel
theorem dX6_read_43 : decode cX6_read 43 = .ok (.ifCond .eq 18, 3) := by decide +kernel
theorem dX6_read_46 : decode cX6_read 46 = .ok (.aload_n 0, 1) := by decide +kernel
theorem dX6_read_47 : decode cX6_read 47 = .ok (.getfield 121, 3) := by decide +kernel
theorem dX6_read_50 : decode cX6_read 50 = .ok (.aload_n 0, 1) := by decide +kernel
theorem dX6_read_51 : decode cX6_read 51 = .ok (.getfield 136, 3) := by decide +kernel
theorem dX6_read_54 : decode cX6_read 54 = .ok (.if_icmp .ne 7, 3) := by decide +kernel
theorem dX6_read_57 : decode cX6_read 57 = .ok (.iconst 1, 1) := by decide +kernel
theorem dX6_read_58 : decode cX6_read 58 = .ok (.goto 4, 3) := by decide +kernel
theorem dX6_read_61 : decode cX6_read 61 = .ok (.iconst 0, 1) := by decide +kernel
theorem dX6_read_62 : decode cX6_read 62 = .ok (.istore_n 2, 1) := by decide +kernel
theorem dX6_read_63 : decode cX6_read 63 = .ok (.iconst 0, 1) := by decide +kernel
theorem dX6_read_64 : decode cX6_read 64 = .ok (.istore_n 3, 1) := by decide +kernel
theorem dX6_read_65 : decode cX6_read 65 = .ok (.iload_n 3, 1) := by decide +kernel
theorem dX6_read_66 : decode cX6_read 66 = .ok (.aload_n 0, 1) := by decide +kernel
theorem dX6_read_67 : decode cX6_read 67 = .ok (.getfield 136, 3) := by decide +kernel
theorem dX6_read_70 : decode cX6_read 70 = .ok (.if_icmp .ge 34, 3) := by decide +kernel
theorem dX6_read_73 : decode cX6_read 73 = .ok (.iload_n 2, 1) := by decide +kernel
theorem dX6_read_74 : decode cX6_read 74 = .ok (.ifCond .eq 30, 3) := by decide +kernel
theorem dX6_read_77 : decode cX6_read 77 = .ok (.aload_n 0, 1) := by decide +kernel
theorem dX6_read_78 : decode cX6_read 78 = .ok (.getfield 16, 3) := by decide +kernel
theorem dX6_read_81 : decode cX6_read 81 = .ok (.iload_n 3, 1) := by decide +kernel
theorem dX6_read_82 : decode cX6_read 82 = .ok (.iaload, 1) := by decide +kernel
theorem dX6_read_83 : decode cX6_read 83 = .ok (.aload_n 0, 1) := by decide +kernel
theorem dX6_read_84 : decode cX6_read 84 = .ok (.getfield 19, 3) := by decide +kernel
theorem dX6_read_87 : decode cX6_read 87 = .ok (.iload_n 3, 1) := by decide +kernel
theorem dX6_read_88 : decode cX6_read 88 = .ok (.iaload, 1) := by decide +kernel
theorem dX6_read_89 : decode cX6_read 89 = .ok (.if_icmp .ne 7, 3) := by decide +kernel
theorem dX6_read_92 : decode cX6_read 92 = .ok (.iconst 1, 1) := by decide +kernel
theorem dX6_read_93 : decode cX6_read 93 = .ok (.goto 4, 3) := by decide +kernel
theorem dX6_read_96 : decode cX6_read 96 = .ok (.iconst 0, 1) := by decide +kernel
theorem dX6_read_97 : decode cX6_read 97 = .ok (.istore_n 2, 1) := by decide +kernel
theorem dX6_read_98 : decode cX6_read 98 = .ok (.iinc 3 1, 3) := by decide +kernel
theorem dX6_read_101 : decode cX6_read 101 = .ok (.goto (-36), 3) := by decide +kernel
theorem dX6_read_104 : decode cX6_read 104 = .ok (.aload_n 0, 1) := by decide +kernel
theorem dX6_read_105 : decode cX6_read 105 = .ok (.iconst 0, 1) := by decide +kernel
theorem dX6_read_106 : decode cX6_read 106 = .ok (.putfield 136, 3) := by decide +kernel
theorem dX6_read_109 : decode cX6_read 109 = .ok (.aload_n 0, 1) := by decide +kernel
theorem dX6_read_110 : decode cX6_read 110 = .ok (.iload_n 1, 1) := by decide +kernel
theorem dX6_read_111 : decode cX6_read 111 = .ok (.ifCond .eq 7, 3) := by decide +kernel
theorem dX6_read_114 : decode cX6_read 114 = .ok (.iconst 2, 1) := by decide +kernel
theorem dX6_read_115 : decode cX6_read 115 = .ok (.goto 12, 3) := by decide +kernel
theorem dX6_read_118 : decode cX6_read 118 = .ok (.iload_n 2, 1) := by decide +kernel
theorem dX6_read_119 : decode cX6_read 119 = .ok (.ifCond .eq 7, 3) := by decide +kernel
theorem dX6_read_122 : decode cX6_read 122 = .ok (.iconst 0, 1) := by decide +kernel
theorem dX6_read_123 : decode cX6_read 123 = .ok (.goto 4, 3) := by decide +kernel
theorem dX6_read_126 : decode cX6_read 126 = .ok (.iconst 1, 1) := by decide +kernel
theorem dX6_read_127 : decode cX6_read 127 = .ok (.putfield 25, 3) := by decide +kernel
theorem dX6_read_130 : decode cX6_read 130 = .ok (.iload_n 2, 1) := by decide +kernel
theorem dX6_read_131 : decode cX6_read 131 = .ok (.ifCond .eq 12, 3) := by decide +kernel
theorem dX6_read_134 : decode cX6_read 134 = .ok (.aload_n 0, 1) := by decide +kernel
theorem dX6_read_135 : decode cX6_read 135 = .ok (.bipush 25, 2) := by decide +kernel
theorem dX6_read_137 : decode cX6_read 137 = .ok (.invokevirtual 74, 3) := by decide +kernel
theorem dX6_read_140 : decode cX6_read 140 = .ok (.goto 4, 3) := by decide +kernel
theorem dX6_read_143 : decode cX6_read 143 = .ok (.iconst 0, 1) := by decide +kernel
theorem dX6_read_144 : decode cX6_read 144 = .ok (.ireturn, 1) := by decide +kernel
theorem dX6_records_0 : decode cX6_records 0 = .ok (.aload_n 0, 1) := by decide +kernel
theorem dX6_records_1 : decode cX6_records 1 = .ok (.iconst 0, 1) := by decide +kernel
theorem dX6_records_2 : decode cX6_records 2 = .ok (.putfield 25, 3) := by decide +kernel
theorem dX6_records_5 : decode cX6_records 5 = .ok (.aload_n 0, 1) := by decide +kernel
theorem dX6_records_6 : decode cX6_records 6 = .ok (.getfield 44, 3) := by decide +kernel
theorem dX6_records_9 : decode cX6_records 9 = .ok (.ireturn, 1) := by decide +kernel
theorem dX6_binOf_0 : decode cX6_binOf 0 = .ok (.aload_n 0, 1) := by decide +kernel
theorem dX6_binOf_1 : decode cX6_binOf 1 = .ok (.iload_n 1, 1) := by decide +kernel
theorem dX6_binOf_2 : decode cX6_binOf 2 = .ok (.iconst 0, 1) := by decide +kernel
theorem dX6_binOf_3 : decode cX6_binOf 3 = .ok (.invokevirtual 33, 3) := by decide +kernel
theorem dX6_binOf_6 : decode cX6_binOf 6 = .ok (.istore_n 2, 1) := by decide +kernel
theorem dX6_binOf_7 : decode cX6_binOf 7 = .ok (.iload_n 2, 1) := by decide +kernel
theorem dX6_binOf_8 : decode cX6_binOf 8 = .ok (.aload_n 0, 1) := by decide +kernel
theorem dX6_binOf_9 : decode cX6_binOf 9 = .ok (.iload_n 1, 1) := by decide +kernel
theorem dX6_binOf_10 : decode cX6_binOf 10 = .ok (.iconst 2, 1) := by decide +kernel
theorem dX6_binOf_11 : decode cX6_binOf 11 = .ok (.invokevirtual 33, 3) := by decide +kernel
theorem dX6_binOf_14 : decode cX6_binOf 14 = .ok (.iadd, 1) := by decide +kernel
theorem dX6_binOf_15 : decode cX6_binOf 15 = .ok (.iconst 1, 1) := by decide +kernel
theorem dX6_binOf_16 : decode cX6_binOf 16 = .ok (.isub, 1) := by decide +kernel
theorem dX6_binOf_17 : decode cX6_binOf 17 = .ok (.istore_n 3, 1) := by decide +kernel
theorem dX6_binOf_18 : decode cX6_binOf 18 = .ok (.iload_n 2, 1) := by decide +kernel
theorem dX6_binOf_19 : decode cX6_binOf 19 = .ok (.bipush 8, 2) := by decide +kernel
theorem dX6_binOf_21 : decode cX6_binOf 21 = .ok (.idiv, 1) := by decide +kernel
theorem dX6_binOf_22 : decode cX6_binOf 22 = .ok (.iload_n 3, 1) := by decide +kernel
theorem dX6_binOf_23 : decode cX6_binOf 23 = .ok (.bipush 8, 2) := by decide +kernel
theorem dX6_binOf_25 : decode cX6_binOf 25 = .ok (.idiv, 1) := by decide +kernel
theorem dX6_binOf_26 : decode cX6_binOf 26 = .ok (.if_icmp .ne 11, 3) := by decide +kernel
theorem dX6_binOf_29 : decode cX6_binOf 29 = .ok (.bipush 11, 2) := by decide +kernel
theorem dX6_binOf_31 : decode cX6_binOf 31 = .ok (.iload_n 2, 1) := by decide +kernel
theorem dX6_binOf_32 : decode cX6_binOf 32 = .ok (.bipush 8, 2) := by decide +kernel
theorem dX6_binOf_34 : decode cX6_binOf 34 = .ok (.idiv, 1) := by decide +kernel
theorem dX6_binOf_35 : decode cX6_binOf 35 = .ok (.iadd, 1) := by decide +kernel
theorem dX6_binOf_36 : decode cX6_binOf 36 = .ok (.ireturn, 1) := by decide +kernel
theorem dX6_binOf_37 : decode cX6_binOf 37 = .ok (.iload_n 2, 1) := by decide +kernel
theorem dX6_binOf_38 : decode cX6_binOf 38 = .ok (.bipush 32, 2) := by decide +kernel
theorem dX6_binOf_40 : decode cX6_binOf 40 = .ok (.idiv, 1) := by decide +kernel
theorem dX6_binOf_41 : decode cX6_binOf 41 = .ok (.iload_n 3, 1) := by decide +kernel
theorem dX6_binOf_42 : decode cX6_binOf 42 = .ok (.bipush 32, 2) := by decide +kernel
theorem dX6_binOf_44 : decode cX6_binOf 44 = .ok (.idiv, 1) := by decide +kernel
theorem dX6_binOf_45 : decode cX6_binOf 45 = .ok (.if_icmp .ne 10, 3) := by decide +kernel
theorem dX6_binOf_48 : decode cX6_binOf 48 = .ok (.iconst 3, 1) := by decide +kernel
theorem dX6_binOf_49 : decode cX6_binOf 49 = .ok (.iload_n 2, 1) := by decide +kernel
theorem dX6_binOf_50 : decode cX6_binOf 50 = .ok (.bipush 32, 2) := by decide +kernel
theorem dX6_binOf_52 : decode cX6_binOf 52 = .ok (.idiv, 1) := by decide +kernel
theorem dX6_binOf_53 : decode cX6_binOf 53 = .ok (.iadd, 1) := by decide +kernel
theorem dX6_binOf_54 : decode cX6_binOf 54 = .ok (.ireturn, 1) := by decide +kernel
theorem dX6_binOf_55 : decode cX6_binOf 55 = .ok (.iload_n 2, 1) := by decide +kernel
theorem dX6_binOf_56 : decode cX6_binOf 56 = .ok (.sipush 128, 3) := by decide +kernel
theorem dX6_binOf_59 : decode cX6_binOf 59 = .ok (.idiv, 1) := by decide +kernel
theorem dX6_binOf_60 : decode cX6_binOf 60 = .ok (.iload_n 3, 1) := by decide +kernel
theorem dX6_binOf_61 : decode cX6_binOf 61 = .ok (.sipush 128, 3) := by decide +kernel
theorem dX6_binOf_64 : decode cX6_binOf 64 = .ok (.idiv, 1) := by decide +kernel
theorem dX6_binOf_65 : decode cX6_binOf 65 = .ok (.if_icmp .ne 13, 3) := by decide +kernel
theorem dX6_binOf_68 : decode cX6_binOf 68 = .ok (.iconst 1, 1) := by decide +kernel
theorem dX6_binOf_69 : decode cX6_binOf 69 = .ok (.iload_n 2, 1) := by decide +kernel
theorem dX6_binOf_70 : decode cX6_binOf 70 = .ok (.sipush 128, 3) := by decide +kernel
theorem dX6_binOf_73 : decode cX6_binOf 73 = .ok (.idiv, 1) := by decide +kernel
theorem dX6_binOf_74 : decode cX6_binOf 74 = .ok (.iadd, 1) := by decide +kernel
theorem dX6_binOf_75 : decode cX6_binOf 75 = .ok (.goto 4, 3) := by decide +kernel
theorem dX6_binOf_78 : decode cX6_binOf 78 = .ok (.iconst 0, 1) := by decide +kernel
theorem dX6_binOf_79 : decode cX6_binOf 79 = .ok (.ireturn, 1) := by decide +kernel
theorem dX6_about_0 : decode cX6_about 0 = .ok (.aload_n 0, 1) := by decide +kernel
theorem dX6_about_1 : decode cX6_about 1 = .ok (.iload_n 1, 1) := by decide +kernel
theorem dX6_about_2 : decode cX6_about 2 = .ok (.aload_n 0, 1) := by decide +kernel
theorem dX6_about_3 : decode cX6_about 3 = .ok (.getfield 44, 3) := by decide +kernel
theorem dX6_about_6 : decode cX6_about 6 = .ok (.invokestatic 67, 3) := by decide +kernel
theorem dX6_about_9 : decode cX6_about 9 = .ok (.ifCond .ne 11, 3) := by decide +kernel
theorem dX6_about_12 : decode cX6_about 12 = .ok (.iload_n 2, 1) := by decide +kernel
theorem dX6_about_13 : decode cX6_about 13 = .ok (.iconst 5, 1) := by decide +kernel
theorem dX6_about_14 : decode cX6_about 14 = .ok (.invokestatic 67, 3) := by decide +kernel
theorem dX6_about_17 : decode cX6_about 17 = .ok (.ifCond .eq 7, 3) := by decide +kernel
theorem dX6_about_20 : decode cX6_about 20 = .ok (.iconst 1, 1) := by decide +kernel
theorem dX6_about_21 : decode cX6_about 21 = .ok (.goto 4, 3) := by decide +kernel
theorem dX6_about_24 : decode cX6_about 24 = .ok (.iconst 0, 1) := by decide +kernel
theorem dX6_about_25 : decode cX6_about 25 = .ok (.iconst 0, 1) := by decide +kernel
theorem dX6_about_26 : decode cX6_about 26 = .ok (.invokevirtual 47, 3) := by decide +kernel
theorem dX6_about_29 : decode cX6_about 29 = .ok (.ifCond .eq 5, 3) := by decide +kernel
theorem dX6_about_32 : decode cX6_about 32 = .ok (.iconst 0, 1) := by decide +kernel
theorem dX6_about_33 : decode cX6_about 33 = .ok (.ireturn, 1) := by decide +kernel
theorem dX6_about_34 : decode cX6_about 34 = .ok (.iload_n 2, 1) := by decide +kernel
theorem dX6_about_35 : decode cX6_about 35 = .ok (.ifCond .ne 12, 3) := by decide +kernel
theorem dX6_about_38 : decode cX6_about 38 = .ok (.aload_n 0, 1) := by decide +kernel
theorem dX6_about_39 : decode cX6_about 39 = .ok (.iload_n 1, 1) := by decide +kernel
theorem dX6_about_40 : decode cX6_about 40 = .ok (.iconst 0, 1) := by decide +kernel
theorem dX6_about_41 : decode cX6_about 41 = .ok (.invokevirtual 33, 3) := by decide +kernel
theorem dX6_about_44 : decode cX6_about 44 = .ok (.goto 51, 3) := by decide +kernel
theorem dX6_about_47 : decode cX6_about 47 = .ok (.iload_n 2, 1) := by decide +kernel
theorem dX6_about_48 : decode cX6_about 48 = .ok (.iconst 1, 1) := by decide +kernel
theorem dX6_about_49 : decode cX6_about 49 = .ok (.if_icmp .ne 12, 3) := by decide +kernel
theorem dX6_about_52 : decode cX6_about 52 = .ok (.aload_n 0, 1) := by decide +kernel
theorem dX6_about_53 : decode cX6_about 53 = .ok (.iload_n 1, 1) := by decide +kernel
theorem dX6_about_54 : decode cX6_about 54 = .ok (.iconst 1, 1) := by decide +kernel
theorem dX6_about_55 : decode cX6_about 55 = .ok (.invokevirtual 33, 3) := by decide +kernel
theorem dX6_about_58 : decode cX6_about 58 = .ok (.goto 37, 3) := by decide +kernel
theorem dX6_about_61 : decode cX6_about 61 = .ok (.iload_n 2, 1) := by decide +kernel
theorem dX6_about_62 : decode cX6_about 62 = .ok (.iconst 2, 1) := by decide +kernel
theorem dX6_about_63 : decode cX6_about 63 = .ok (.if_icmp .ne 12, 3) := by decide +kernel
theorem dX6_about_66 : decode cX6_about 66 = .ok (.aload_n 0, 1) := by decide +kernel
theorem dX6_about_67 : decode cX6_about 67 = .ok (.iload_n 1, 1) := by decide +kernel
theorem dX6_about_68 : decode cX6_about 68 = .ok (.iconst 2, 1) := by decide +kernel
theorem dX6_about_69 : decode cX6_about 69 = .ok (.invokevirtual 33, 3) := by decide +kernel
theorem dX6_about_72 : decode cX6_about 72 = .ok (.goto 23, 3) := by decide +kernel
theorem dX6_about_75 : decode cX6_about 75 = .ok (.iload_n 2, 1) := by decide +kernel
theorem dX6_about_76 : decode cX6_about 76 = .ok (.iconst 3, 1) := by decide +kernel
theorem dX6_about_77 : decode cX6_about 77 = .ok (.if_icmp .ne 13, 3) := by decide +kernel
theorem dX6_about_80 : decode cX6_about 80 = .ok (.aload_n 0, 1) := by decide +kernel
theorem dX6_about_81 : decode cX6_about 81 = .ok (.iload_n 1, 1) := by decide +kernel
theorem dX6_about_82 : decode cX6_about 82 = .ok (.bipush 10, 2) := by decide +kernel
theorem dX6_about_84 : decode cX6_about 84 = .ok (.invokevirtual 33, 3) := by decide +kernel
theorem dX6_about_87 : decode cX6_about 87 = .ok (.goto 8, 3) := by decide +kernel
theorem dX6_about_90 : decode cX6_about 90 = .ok (.aload_n 0, 1) := by decide +kernel
theorem dX6_about_91 : decode cX6_about 91 = .ok (.iload_n 1, 1) := by decide +kernel
theorem dX6_about_92 : decode cX6_about 92 = .ok (.invokevirtual 160, 3) := by decide +kernel
theorem dX6_about_95 : decode cX6_about 95 = .ok (.ireturn, 1) := by decide +kernel
theorem dX6_base_0 : decode cX6_base 0 = .ok (.iload_n 1, 1) := by decide +kernel
theorem dX6_base_1 : decode cX6_base 1 = .ok (.aload_n 0, 1) := by decide +kernel
theorem dX6_base_2 : decode cX6_base 2 = .ok (.getfield 44, 3) := by decide +kernel
theorem dX6_base_5 : decode cX6_base 5 = .ok (.invokestatic 67, 3) := by decide +kernel
theorem dX6_base_8 : decode cX6_base 8 = .ok (.ifCond .ne 16, 3) := by decide +kernel
theorem dX6_base_11 : decode cX6_base 11 = .ok (.iload_n 2, 1) := by decide +kernel
theorem dX6_base_12 : decode cX6_base 12 = .ok (.aload_n 0, 1) := by decide +kernel
theorem dX6_base_13 : decode cX6_base 13 = .ok (.iload_n 1, 1) := by decide +kernel
theorem dX6_base_14 : decode cX6_base 14 = .ok (.iconst 1, 1) := by decide +kernel
theorem dX6_base_15 : decode cX6_base 15 = .ok (.invokevirtual 33, 3) := by decide +kernel
theorem dX6_base_18 : decode cX6_base 18 = .ok (.invokestatic 67, 3) := by decide +kernel
theorem dX6_base_21 : decode cX6_base 21 = .ok (.ifCond .eq 7, 3) := by decide +kernel
theorem dX6_base_24 : decode cX6_base 24 = .ok (.iconst 1, 1) := by decide +kernel
theorem dX6_base_25 : decode cX6_base 25 = .ok (.goto 4, 3) := by decide +kernel
theorem dX6_base_28 : decode cX6_base 28 = .ok (.iconst 0, 1) := by decide +kernel
theorem dX6_base_29 : decode cX6_base 29 = .ok (.istore 4, 2) := by decide +kernel
theorem dX6_base_31 : decode cX6_base 31 = .ok (.iload 4, 2) := by decide +kernel
theorem dX6_base_33 : decode cX6_base 33 = .ok (.ifCond .eq 7, 3) := by decide +kernel
theorem dX6_base_36 : decode cX6_base 36 = .ok (.iconst 0, 1) := by decide +kernel
theorem dX6_base_37 : decode cX6_base 37 = .ok (.goto 11, 3) := by decide +kernel
theorem dX6_base_40 : decode cX6_base 40 = .ok (.aload_n 0, 1) := by decide +kernel
theorem dX6_base_41 : decode cX6_base 41 = .ok (.iload_n 1, 1) := by decide +kernel
theorem dX6_base_42 : decode cX6_base 42 = .ok (.iconst 2, 1) := by decide +kernel
theorem dX6_base_43 : decode cX6_base 43 = .ok (.iload_n 2, 1) := by decide +kernel
theorem dX6_base_44 : decode cX6_base 44 = .ok (.iadd, 1) := by decide +kernel
theorem dX6_base_45 : decode cX6_base 45 = .ok (.invokevirtual 33, 3) := by decide +kernel
theorem dX6_base_48 : decode cX6_base 48 = .ok (.istore 5, 2) := by decide +kernel
theorem dX6_base_50 : decode cX6_base 50 = .ok (.aload_n 0, 1) := by decide +kernel
theorem dX6_base_51 : decode cX6_base 51 = .ok (.iload 4, 2) := by decide +kernel
theorem dX6_base_53 : decode cX6_base 53 = .ok (.iload_n 3, 1) := by decide +kernel
theorem dX6_base_54 : decode cX6_base 54 = .ok (.iconst (-1), 1) := by decide +kernel
theorem dX6_base_55 : decode cX6_base 55 = .ok (.if_icmp .lt 9, 3) := by decide +kernel
theorem dX6_base_58 : decode cX6_base 58 = .ok (.iload_n 3, 1) := by decide +kernel
theorem dX6_base_59 : decode cX6_base 59 = .ok (.iload 5, 2) := by decide +kernel
theorem dX6_base_61 : decode cX6_base 61 = .ok (.if_icmp .lt 7, 3) := by decide +kernel
theorem dX6_base_64 : decode cX6_base 64 = .ok (.iconst 1, 1) := by decide +kernel
theorem dX6_base_65 : decode cX6_base 65 = .ok (.goto 4, 3) := by decide +kernel
theorem dX6_base_68 : decode cX6_base 68 = .ok (.iconst 0, 1) := by decide +kernel
theorem dX6_base_69 : decode cX6_base 69 = .ok (.invokevirtual 47, 3) := by decide +kernel
theorem dX6_base_72 : decode cX6_base 72 = .ok (.ifCond .eq 5, 3) := by decide +kernel
theorem dX6_base_75 : decode cX6_base 75 = .ok (.iconst 0, 1) := by decide +kernel
theorem dX6_base_76 : decode cX6_base 76 = .ok (.ireturn, 1) := by decide +kernel
theorem dX6_base_77 : decode cX6_base 77 = .ok (.iload_n 3, 1) := by decide +kernel
theorem dX6_base_78 : decode cX6_base 78 = .ok (.ifCond .ge 8, 3) := by decide +kernel
theorem dX6_base_81 : decode cX6_base 81 = .ok (.iload 5, 2) := by decide +kernel
theorem dX6_base_83 : decode cX6_base 83 = .ok (.goto 23, 3) := by decide +kernel
theorem dX6_base_86 : decode cX6_base 86 = .ok (.aload_n 0, 1) := by decide +kernel
theorem dX6_base_87 : decode cX6_base 87 = .ok (.iload_n 1, 1) := by decide +kernel
theorem dX6_base_88 : decode cX6_base 88 = .ok (.bipush 6, 2) := by decide +kernel
theorem dX6_base_90 : decode cX6_base 90 = .ok (.iload_n 2, 1) := by decide +kernel
theorem dX6_base_91 : decode cX6_base 91 = .ok (.iadd, 1) := by decide +kernel
theorem dX6_base_92 : decode cX6_base 92 = .ok (.invokevirtual 33, 3) := by decide +kernel
theorem dX6_base_95 : decode cX6_base 95 = .ok (.iconst 2, 1) := by decide +kernel
theorem dX6_base_96 : decode cX6_base 96 = .ok (.iload 5, 2) := by decide +kernel
theorem dX6_base_98 : decode cX6_base 98 = .ok (.iconst 1, 1) := by decide +kernel
theorem dX6_base_99 : decode cX6_base 99 = .ok (.isub, 1) := by decide +kernel
theorem dX6_base_100 : decode cX6_base 100 = .ok (.iload_n 3, 1) := by decide +kernel
theorem dX6_base_101 : decode cX6_base 101 = .ok (.isub, 1) := by decide +kernel
theorem dX6_base_102 : decode cX6_base 102 = .ok (.imul, 1) := by decide +kernel
theorem dX6_base_103 : decode cX6_base 103 = .ok (.ishr, 1) := by decide +kernel
theorem dX6_base_104 : decode cX6_base 104 = .ok (.iconst 3, 1) := by decide +kernel
theorem dX6_base_105 : decode cX6_base 105 = .ok (.iand, 1) := by decide +kernel
theorem dX6_base_106 : decode cX6_base 106 = .ok (.ireturn, 1) := by decide +kernel
theorem dX6_isBad_0 : decode cX6_isBad 0 = .ok (.iload_n 1, 1) := by decide +kernel
theorem dX6_isBad_1 : decode cX6_isBad 1 = .ok (.iconst 1, 1) := by decide +kernel
theorem dX6_isBad_2 : decode cX6_isBad 2 = .ok (.if_icmp .lt 15, 3) := by decide +kernel
theorem dX6_isBad_5 : decode cX6_isBad 5 = .ok (.iload_n 1, 1) := by decide +kernel
theorem dX6_isBad_6 : decode cX6_isBad 6 = .ok (.iload_n 2, 1) := by decide +kernel
theorem dX6_isBad_7 : decode cX6_isBad 7 = .ok (.if_icmp .gt 10, 3) := by decide +kernel
theorem dX6_isBad_10 : decode cX6_isBad 10 = .ok (.iload_n 2, 1) := by decide +kernel
theorem dX6_isBad_11 : decode cX6_isBad 11 = .ok (.sipush 255, 3) := by decide +kernel
theorem dX6_isBad_14 : decode cX6_isBad 14 = .ok (.if_icmp .le 7, 3) := by decide +kernel
theorem dX6_isBad_17 : decode cX6_isBad 17 = .ok (.iconst 1, 1) := by decide +kernel
theorem dX6_isBad_18 : decode cX6_isBad 18 = .ok (.goto 4, 3) := by decide +kernel
theorem dX6_isBad_21 : decode cX6_isBad 21 = .ok (.iconst 0, 1) := by decide +kernel
theorem dX6_isBad_22 : decode cX6_isBad 22 = .ok (.ireturn, 1) := by decide +kernel
theorem dX6_spans_0 : decode cX6_spans 0 = .ok (.aload_n 0, 1) := by decide +kernel
theorem dX6_spans_1 : decode cX6_spans 1 = .ok (.iload_n 1, 1) := by decide +kernel
theorem dX6_spans_2 : decode cX6_spans 2 = .ok (.iconst 0, 1) := by decide +kernel
theorem dX6_spans_3 : decode cX6_spans 3 = .ok (.invokevirtual 33, 3) := by decide +kernel
theorem dX6_spans_6 : decode cX6_spans 6 = .ok (.iload_n 3, 1) := by decide +kernel
theorem dX6_spans_7 : decode cX6_spans 7 = .ok (.if_icmp .gt 24, 3) := by decide +kernel
theorem dX6_spans_10 : decode cX6_spans 10 = .ok (.aload_n 0, 1) := by decide +kernel
theorem dX6_spans_11 : decode cX6_spans 11 = .ok (.iload_n 1, 1) := by decide +kernel
theorem dX6_spans_12 : decode cX6_spans 12 = .ok (.iconst 0, 1) := by decide +kernel
theorem dX6_spans_13 : decode cX6_spans 13 = .ok (.invokevirtual 33, 3) := by decide +kernel
theorem dX6_spans_16 : decode cX6_spans 16 = .ok (.aload_n 0, 1) := by decide +kernel
theorem dX6_spans_17 : decode cX6_spans 17 = .ok (.iload_n 1, 1) := by decide +kernel
theorem dX6_spans_18 : decode cX6_spans 18 = .ok (.iconst 2, 1) := by decide +kernel
theorem dX6_spans_19 : decode cX6_spans 19 = .ok (.invokevirtual 33, 3) := by decide +kernel
theorem dX6_spans_22 : decode cX6_spans 22 = .ok (.iadd, 1) := by decide +kernel
theorem dX6_spans_23 : decode cX6_spans 23 = .ok (.iload_n 2, 1) := by decide +kernel
theorem dX6_spans_24 : decode cX6_spans 24 = .ok (.if_icmp .le 7, 3) := by decide +kernel
theorem dX6_spans_27 : decode cX6_spans 27 = .ok (.iconst 1, 1) := by decide +kernel
theorem dX6_spans_28 : decode cX6_spans 28 = .ok (.goto 4, 3) := by decide +kernel
theorem dX6_spans_31 : decode cX6_spans 31 = .ok (.iconst 0, 1) := by decide +kernel
theorem dX6_spans_32 : decode cX6_spans 32 = .ok (.ireturn, 1) := by decide +kernel
theorem dX6_found_0 : decode cX6_found 0 = .ok (.aload_n 0, 1) := by decide +kernel
theorem dX6_found_1 : decode cX6_found 1 = .ok (.aload_n 0, 1) := by decide +kernel
theorem dX6_found_2 : decode cX6_found 2 = .ok (.iload_n 1, 1) := by decide +kernel
theorem dX6_found_3 : decode cX6_found 3 = .ok (.iload_n 2, 1) := by decide +kernel
theorem dX6_found_4 : decode cX6_found 4 = .ok (.invokevirtual 163, 3) := by decide +kernel
theorem dX6_found_7 : decode cX6_found 7 = .ok (.iconst 0, 1) := by decide +kernel
theorem dX6_found_8 : decode cX6_found 8 = .ok (.invokevirtual 47, 3) := by decide +kernel
theorem dX6_found_11 : decode cX6_found 11 = .ok (.ifCond .eq 5, 3) := by decide +kernel
theorem dX6_found_14 : decode cX6_found 14 = .ok (.iconst 0, 1) := by decide +kernel
theorem dX6_found_15 : decode cX6_found 15 = .ok (.ireturn, 1) := by decide +kernel
theorem dX6_found_16 : decode cX6_found 16 = .ok (.iconst 0, 1) := by decide +kernel
theorem dX6_found_17 : decode cX6_found 17 = .ok (.istore_n 3, 1) := by decide +kernel
theorem dX6_found_18 : decode cX6_found 18 = .ok (.iconst 0, 1) := by decide +kernel
theorem dX6_found_19 : decode cX6_found 19 = .ok (.istore 4, 2) := by decide +kernel
theorem dX6_found_21 : decode cX6_found 21 = .ok (.iload 4, 2) := by decide +kernel
theorem dX6_found_23 : decode cX6_found 23 = .ok (.aload_n 0, 1) := by decide +kernel
theorem dX6_found_24 : decode cX6_found 24 = .ok (.getfield 44, 3) := by decide +kernel
theorem dX6_found_27 : decode cX6_found 27 = .ok (.if_icmp .ge 28, 3) := by decide +kernel
theorem dX6_found_30 : decode cX6_found 30 = .ok (.aload_n 0, 1) := by decide +kernel
theorem dX6_found_31 : decode cX6_found 31 = .ok (.iload 4, 2) := by decide +kernel
theorem dX6_found_33 : decode cX6_found 33 = .ok (.iload_n 1, 1) := by decide +kernel
theorem dX6_found_34 : decode cX6_found 34 = .ok (.iload_n 2, 1) := by decide +kernel
theorem dX6_found_35 : decode cX6_found 35 = .ok (.invokevirtual 166, 3) := by decide +kernel
theorem dX6_found_38 : decode cX6_found 38 = .ok (.ifCond .eq 9, 3) := by decide +kernel
theorem dX6_found_41 : decode cX6_found 41 = .ok (.iload_n 3, 1) := by decide +kernel
theorem dX6_found_42 : decode cX6_found 42 = .ok (.iconst 1, 1) := by decide +kernel
theorem dX6_found_43 : decode cX6_found 43 = .ok (.iadd, 1) := by decide +kernel
theorem dX6_found_44 : decode cX6_found 44 = .ok (.goto 4, 3) := by decide +kernel
theorem dX6_found_47 : decode cX6_found 47 = .ok (.iload_n 3, 1) := by decide +kernel
theorem dX6_found_48 : decode cX6_found 48 = .ok (.istore_n 3, 1) := by decide +kernel
theorem dX6_found_49 : decode cX6_found 49 = .ok (.iinc 4 1, 3) := by decide +kernel
theorem dX6_found_52 : decode cX6_found 52 = .ok (.goto (-31), 3) := by decide +kernel
theorem dX6_found_55 : decode cX6_found 55 = .ok (.iload_n 3, 1) := by decide +kernel
theorem dX6_found_56 : decode cX6_found 56 = .ok (.ireturn, 1) := by decide +kernel
theorem dX6_mean_0 : decode cX6_mean 0 = .ok (.aload_n 0, 1) := by decide +kernel
theorem dX6_mean_1 : decode cX6_mean 1 = .ok (.iload_n 1, 1) := by decide +kernel
theorem dX6_mean_2 : decode cX6_mean 2 = .ok (.iload_n 2, 1) := by decide +kernel
theorem dX6_mean_3 : decode cX6_mean 3 = .ok (.invokevirtual 163, 3) := by decide +kernel
theorem dX6_mean_6 : decode cX6_mean 6 = .ok (.istore_n 3, 1) := by decide +kernel
theorem dX6_mean_7 : decode cX6_mean 7 = .ok (.iconst 0, 1) := by decide +kernel
theorem dX6_mean_8 : decode cX6_mean 8 = .ok (.istore 4, 2) := by decide +kernel
theorem dX6_mean_10 : decode cX6_mean 10 = .ok (.fconst 0, 1) := by decide +kernel
theorem dX6_mean_11 : decode cX6_mean 11 = .ok (.fstore 5, 2) := by decide +kernel
theorem dX6_mean_13 : decode cX6_mean 13 = .ok (.iconst 0, 1) := by decide +kernel
theorem dX6_mean_14 : decode cX6_mean 14 = .ok (.istore 6, 2) := by decide +kernel
theorem dX6_mean_16 : decode cX6_mean 16 = .ok (.iload 6, 2) := by decide +kernel
theorem dX6_mean_18 : decode cX6_mean 18 = .ok (.aload_n 0, 1) := by decide +kernel
theorem dX6_mean_19 : decode cX6_mean 19 = .ok (.getfield 44, 3) := by decide +kernel
theorem dX6_mean_22 : decode cX6_mean 22 = .ok (.if_icmp .ge 43, 3) := by decide +kernel
theorem dX6_mean_25 : decode cX6_mean 25 = .ok (.aload_n 0, 1) := by decide +kernel
theorem dX6_mean_26 : decode cX6_mean 26 = .ok (.iload 6, 2) := by decide +kernel
theorem dX6_mean_28 : decode cX6_mean 28 = .ok (.iload_n 1, 1) := by decide +kernel
theorem dX6_mean_29 : decode cX6_mean 29 = .ok (.iload_n 2, 1) := by decide +kernel
theorem dX6_mean_30 : decode cX6_mean 30 = .ok (.invokevirtual 166, 3) := by decide +kernel
theorem dX6_mean_33 : decode cX6_mean 33 = .ok (.ifCond .ne 6, 3) := by decide +kernel
theorem dX6_mean_36 : decode cX6_mean 36 = .ok (.goto 23, 3) := by decide +kernel
theorem dX6_mean_39 : decode cX6_mean 39 = .ok (.fload 5, 2) := by decide +kernel
theorem dX6_mean_41 : decode cX6_mean 41 = .ok (.aload_n 0, 1) := by decide +kernel
theorem dX6_mean_42 : decode cX6_mean 42 = .ok (.iload 6, 2) := by decide +kernel
theorem dX6_mean_44 : decode cX6_mean 44 = .ok (.bipush 10, 2) := by decide +kernel
theorem dX6_mean_46 : decode cX6_mean 46 = .ok (.invokevirtual 33, 3) := by decide +kernel
theorem dX6_mean_49 : decode cX6_mean 49 = .ok (.i2f, 1) := by decide +kernel
theorem dX6_mean_50 : decode cX6_mean 50 = .ok (.ldc 170, 2) := by decide +kernel
theorem dX6_mean_52 : decode cX6_mean 52 = .ok (.fmul, 1) := by decide +kernel
theorem dX6_mean_53 : decode cX6_mean 53 = .ok (.fadd, 1) := by decide +kernel
theorem dX6_mean_54 : decode cX6_mean 54 = .ok (.fstore 5, 2) := by decide +kernel
theorem dX6_mean_56 : decode cX6_mean 56 = .ok (.iinc 4 1, 3) := by decide +kernel
theorem dX6_mean_59 : decode cX6_mean 59 = .ok (.iinc 6 1, 3) := by decide +kernel
theorem dX6_mean_62 : decode cX6_mean 62 = .ok (.goto (-46), 3) := by decide +kernel
theorem dX6_mean_65 : decode cX6_mean 65 = .ok (.aload_n 0, 1) := by decide +kernel
theorem dX6_mean_66 : decode cX6_mean 66 = .ok (.iload_n 3, 1) := by decide +kernel
theorem dX6_mean_67 : decode cX6_mean 67 = .ok (.iload 4, 2) := by decide +kernel
theorem dX6_mean_69 : decode cX6_mean 69 = .ok (.ifCond .ne 7, 3) := by decide +kernel
theorem dX6_mean_72 : decode cX6_mean 72 = .ok (.iconst 1, 1) := by decide +kernel
theorem dX6_mean_73 : decode cX6_mean 73 = .ok (.goto 4, 3) := by decide +kernel
theorem dX6_mean_76 : decode cX6_mean 76 = .ok (.iconst 0, 1) := by decide +kernel
theorem dX6_mean_77 : decode cX6_mean 77 = .ok (.invokevirtual 47, 3) := by decide +kernel
theorem dX6_mean_80 : decode cX6_mean 80 = .ok (.ifCond .eq 7, 3) := by decide +kernel
theorem dX6_mean_83 : decode cX6_mean 83 = .ok (.fconst 0, 1) := by decide +kernel
theorem dX6_mean_84 : decode cX6_mean 84 = .ok (.goto 9, 3) := by decide +kernel
theorem dX6_mean_87 : decode cX6_mean 87 = .ok (.fload 5, 2) := by decide +kernel
theorem dX6_mean_89 : decode cX6_mean 89 = .ok (.iload 4, 2) := by decide +kernel
theorem dX6_mean_91 : decode cX6_mean 91 = .ok (.i2f, 1) := by decide +kernel
theorem dX6_mean_92 : decode cX6_mean 92 = .ok (.fdiv, 1) := by decide +kernel
theorem dX6_mean_93 : decode cX6_mean 93 = .ok (.freturn, 1) := by decide +kernel
end
section
theorem dL_reference_0 : decode cL_reference 0 = .ok (.aload 4, 2) := by decide +kernel
theorem dL_reference_2 : decode cL_reference 2 = .ok (.iconst 0, 1) := by decide +kernel
theorem dL_reference_3 : decode cL_reference 3 = .ok (.aload_n 0, 1) := by decide +kernel
theorem dL_reference_4 : decode cL_reference 4 = .ok (.lload_n 1, 1) := by decide +kernel
theorem dL_reference_5 : decode cL_reference 5 = .ok (.iload_n 3, 1) := by decide +kernel
theorem dL_reference_6 : decode cL_reference 6 = .ok (.invokevirtual 7, 3) := by decide +kernel
theorem dL_reference_9 : decode cL_reference 9 = .ok (.i2l, 1) := by decide +kernel
theorem dL_reference_10 : decode cL_reference 10 = .ok (.lastore, 1) := by decide +kernel
theorem dL_reference_11 : decode cL_reference 11 = .ok (.goto 11, 3) := by decide +kernel
theorem dL_reference_14 : decode cL_reference 14 = .ok (.astore 5, 2) := by decide +kernel
theorem dL_reference_16 : decode cL_reference 16 = .ok (.iconst 1, 1) := by decide +kernel
theorem dL_reference_17 : decode cL_reference 17 = .ok (.ireturn, 1) := by decide +kernel
theorem dL_reference_18 : decode cL_reference 18 = .ok (.astore 5, 2) := by decide +kernel
theorem dL_reference_20 : decode cL_reference 20 = .ok (.iconst 2, 1) := by decide +kernel
theorem dL_reference_21 : decode cL_reference 21 = .ok (.ireturn, 1) := by decide +kernel
theorem dL_reference_22 : decode cL_reference 22 = .ok (.iconst 0, 1) := by decide +kernel
theorem dL_reference_23 : decode cL_reference 23 = .ok (.ireturn, 1) := by decide +kernel
theorem dL_draft_0 : decode cL_draft 0 = .ok (.aload_n 0, 1) := by decide +kernel
theorem dL_draft_1 : decode cL_draft 1 = .ok (.iload_n 1, 1) := by decide +kernel
theorem dL_draft_2 : decode cL_draft 2 = .ok (.iload_n 2, 1) := by decide +kernel
theorem dL_draft_3 : decode cL_draft 3 = .ok (.invokevirtual 17, 3) := by decide +kernel
theorem dL_draft_6 : decode cL_draft 6 = .ok (.goto 6, 3) := by decide +kernel
theorem dL_draft_9 : decode cL_draft 9 = .ok (.astore_n 3, 1) := by decide +kernel
theorem dL_draft_10 : decode cL_draft 10 = .ok (.iconst 1, 1) := by decide +kernel
theorem dL_draft_11 : decode cL_draft 11 = .ok (.ireturn, 1) := by decide +kernel
theorem dL_draft_12 : decode cL_draft 12 = .ok (.iconst 0, 1) := by decide +kernel
theorem dL_draft_13 : decode cL_draft 13 = .ok (.ireturn, 1) := by decide +kernel
theorem dL_allele_0 : decode cL_allele 0 = .ok (.aload 4, 2) := by decide +kernel
theorem dL_allele_2 : decode cL_allele 2 = .ok (.iconst 0, 1) := by decide +kernel
theorem dL_allele_3 : decode cL_allele 3 = .ok (.aload_n 0, 1) := by decide +kernel
theorem dL_allele_4 : decode cL_allele 4 = .ok (.lload_n 1, 1) := by decide +kernel
theorem dL_allele_5 : decode cL_allele 5 = .ok (.iload_n 3, 1) := by decide +kernel
theorem dL_allele_6 : decode cL_allele 6 = .ok (.invokevirtual 21, 3) := by decide +kernel
theorem dL_allele_9 : decode cL_allele 9 = .ok (.i2l, 1) := by decide +kernel
theorem dL_allele_10 : decode cL_allele 10 = .ok (.lastore, 1) := by decide +kernel
theorem dL_allele_11 : decode cL_allele 11 = .ok (.goto 11, 3) := by decide +kernel
theorem dL_allele_14 : decode cL_allele 14 = .ok (.astore 5, 2) := by decide +kernel
theorem dL_allele_16 : decode cL_allele 16 = .ok (.iconst 1, 1) := by decide +kernel
theorem dL_allele_17 : decode cL_allele 17 = .ok (.ireturn, 1) := by decide +kernel
theorem dL_allele_18 : decode cL_allele 18 = .ok (.astore 5, 2) := by decide +kernel
theorem dL_allele_20 : decode cL_allele 20 = .ok (.iconst 2, 1) := by decide +kernel
theorem dL_allele_21 : decode cL_allele 21 = .ok (.ireturn, 1) := by decide +kernel
theorem dL_allele_22 : decode cL_allele 22 = .ok (.iconst 0, 1) := by decide +kernel
theorem dL_allele_23 : decode cL_allele 23 = .ok (.ireturn, 1) := by decide +kernel
theorem dL_depth_0 : decode cL_depth 0 = .ok (.aload_n 0, 1) := by decide +kernel
theorem dL_depth_1 : decode cL_depth 1 = .ok (.iload_n 1, 1) := by decide +kernel
theorem dL_depth_2 : decode cL_depth 2 = .ok (.iload_n 2, 1) := by decide +kernel
theorem dL_depth_3 : decode cL_depth 3 = .ok (.iload_n 3, 1) := by decide +kernel
theorem dL_depth_4 : decode cL_depth 4 = .ok (.invokevirtual 24, 3) := by decide +kernel
theorem dL_depth_7 : decode cL_depth 7 = .ok (.goto 7, 3) := by decide +kernel
theorem dL_depth_10 : decode cL_depth 10 = .ok (.astore 4, 2) := by decide +kernel
theorem dL_depth_12 : decode cL_depth 12 = .ok (.iconst 1, 1) := by decide +kernel
theorem dL_depth_13 : decode cL_depth 13 = .ok (.ireturn, 1) := by decide +kernel
theorem dL_depth_14 : decode cL_depth 14 = .ok (.iconst 0, 1) := by decide +kernel
theorem dL_depth_15 : decode cL_depth 15 = .ok (.ireturn, 1) := by decide +kernel
theorem dL_genotype_0 : decode cL_genotype 0 = .ok (.aload_n 0, 1) := by decide +kernel
theorem dL_genotype_1 : decode cL_genotype 1 = .ok (.iload_n 1, 1) := by decide +kernel
theorem dL_genotype_2 : decode cL_genotype 2 = .ok (.iload_n 2, 1) := by decide +kernel
theorem dL_genotype_3 : decode cL_genotype 3 = .ok (.iload_n 3, 1) := by decide +kernel
theorem dL_genotype_4 : decode cL_genotype 4 = .ok (.iload 4, 2) := by decide +kernel
theorem dL_genotype_6 : decode cL_genotype 6 = .ok (.invokevirtual 28, 3) := by decide +kernel
theorem dL_genotype_9 : decode cL_genotype 9 = .ok (.goto 7, 3) := by decide +kernel
theorem dL_genotype_12 : decode cL_genotype 12 = .ok (.astore 5, 2) := by decide +kernel
theorem dL_genotype_14 : decode cL_genotype 14 = .ok (.iconst 1, 1) := by decide +kernel
theorem dL_genotype_15 : decode cL_genotype 15 = .ok (.ireturn, 1) := by decide +kernel
theorem dL_genotype_16 : decode cL_genotype 16 = .ok (.iconst 0, 1) := by decide +kernel
theorem dL_genotype_17 : decode cL_genotype 17 = .ok (.ireturn, 1) := by decide +kernel
theorem dL_likelihood_0 : decode cL_likelihood 0 = .ok (.aload_n 0, 1) := by decide +kernel
theorem dL_likelihood_1 : decode cL_likelihood 1 = .ok (.iload_n 1, 1) := by decide +kernel
theorem dL_likelihood_2 : decode cL_likelihood 2 = .ok (.iload_n 2, 1) := by decide +kernel
theorem dL_likelihood_3 : decode cL_likelihood 3 = .ok (.iload_n 3, 1) := by decide +kernel
theorem dL_likelihood_4 : decode cL_likelihood 4 = .ok (.invokevirtual 32, 3) := by decide +kernel
theorem dL_likelihood_7 : decode cL_likelihood 7 = .ok (.goto 7, 3) := by decide +kernel
theorem dL_likelihood_10 : decode cL_likelihood 10 = .ok (.astore 4, 2) := by decide +kernel
theorem dL_likelihood_12 : decode cL_likelihood 12 = .ok (.iconst 1, 1) := by decide +kernel
theorem dL_likelihood_13 : decode cL_likelihood 13 = .ok (.ireturn, 1) := by decide +kernel
theorem dL_likelihood_14 : decode cL_likelihood 14 = .ok (.iconst 0, 1) := by decide +kernel
theorem dL_likelihood_15 : decode cL_likelihood 15 = .ok (.ireturn, 1) := by decide +kernel
theorem dL_add_0 : decode cL_add 0 = .ok (.aload_n 1, 1) := by decide +kernel
theorem dL_add_1 : decode cL_add 1 = .ok (.iconst 0, 1) := by decide +kernel
theorem dL_add_2 : decode cL_add 2 = .ok (.aload_n 0, 1) := by decide +kernel
theorem dL_add_3 : decode cL_add 3 = .ok (.invokevirtual 35, 3) := by decide +kernel
theorem dL_add_6 : decode cL_add 6 = .ok (.i2l, 1) := by decide +kernel
theorem dL_add_7 : decode cL_add 7 = .ok (.lastore, 1) := by decide +kernel
theorem dL_add_8 : decode cL_add 8 = .ok (.goto 6, 3) := by decide +kernel
theorem dL_add_11 : decode cL_add 11 = .ok (.astore_n 2, 1) := by decide +kernel
theorem dL_add_12 : decode cL_add 12 = .ok (.iconst 1, 1) := by decide +kernel
theorem dL_add_13 : decode cL_add 13 = .ok (.ireturn, 1) := by decide +kernel
theorem dL_add_14 : decode cL_add 14 = .ok (.iconst 0, 1) := by decide +kernel
theorem dL_add_15 : decode cL_add 15 = .ok (.ireturn, 1) := by decide +kernel
theorem dL_remove_0 : decode cL_remove 0 = .ok (.aload_n 0, 1) := by decide +kernel
theorem dL_remove_1 : decode cL_remove 1 = .ok (.iload_n 1, 1) := by decide +kernel
theorem dL_remove_2 : decode cL_remove 2 = .ok (.invokevirtual 39, 3) := by decide +kernel
theorem dL_remove_5 : decode cL_remove 5 = .ok (.goto 6, 3) := by decide +kernel
theorem dL_remove_8 : decode cL_remove 8 = .ok (.astore_n 2, 1) := by decide +kernel
theorem dL_remove_9 : decode cL_remove 9 = .ok (.iconst 1, 1) := by decide +kernel
theorem dL_remove_10 : decode cL_remove 10 = .ok (.ireturn, 1) := by decide +kernel
theorem dL_remove_11 : decode cL_remove 11 = .ok (.iconst 0, 1) := by decide +kernel
theorem dL_remove_12 : decode cL_remove 12 = .ok (.ireturn, 1) := by decide +kernel
theorem dL_normalise_0 : decode cL_normalise 0 = .ok (.aload_n 2, 1) := by decide +kernel
theorem dL_normalise_1 : decode cL_normalise 1 = .ok (.iconst 0, 1) := by decide +kernel
theorem dL_normalise_2 : decode cL_normalise 2 = .ok (.aload_n 0, 1) := by decide +kernel
theorem dL_normalise_3 : decode cL_normalise 3 = .ok (.iload_n 1, 1) := by decide +kernel
theorem dL_normalise_4 : decode cL_normalise 4 = .ok (.invokevirtual 43, 3) := by decide +kernel
theorem dL_normalise_7 : decode cL_normalise 7 = .ok (.i2l, 1) := by decide +kernel
theorem dL_normalise_8 : decode cL_normalise 8 = .ok (.lastore, 1) := by decide +kernel
theorem dL_normalise_9 : decode cL_normalise 9 = .ok (.goto 6, 3) := by decide +kernel
theorem dL_normalise_12 : decode cL_normalise 12 = .ok (.astore_n 3, 1) := by decide +kernel
theorem dL_normalise_13 : decode cL_normalise 13 = .ok (.iconst 1, 1) := by decide +kernel
theorem dL_normalise_14 : decode cL_normalise 14 = .ok (.ireturn, 1) := by decide +kernel
theorem dL_normalise_15 : decode cL_normalise 15 = .ok (.iconst 0, 1) := by decide +kernel
theorem dL_normalise_16 : decode cL_normalise 16 = .ok (.ireturn, 1) := by decide +kernel
theorem dL_split_0 : decode cL_split 0 = .ok (.aload_n 2, 1) := by decide +kernel
theorem dL_split_1 : decode cL_split 1 = .ok (.iconst 0, 1) := by decide +kernel
theorem dL_split_2 : decode cL_split 2 = .ok (.aload_n 0, 1) := by decide +kernel
theorem dL_split_3 : decode cL_split 3 = .ok (.iload_n 1, 1) := by decide +kernel
theorem dL_split_4 : decode cL_split 4 = .ok (.invokevirtual 47, 3) := by decide +kernel
theorem dL_split_7 : decode cL_split 7 = .ok (.i2l, 1) := by decide +kernel
theorem dL_split_8 : decode cL_split 8 = .ok (.lastore, 1) := by decide +kernel
theorem dL_split_9 : decode cL_split 9 = .ok (.goto 9, 3) := by decide +kernel
theorem dL_split_12 : decode cL_split 12 = .ok (.astore_n 3, 1) := by decide +kernel
theorem dL_split_13 : decode cL_split 13 = .ok (.iconst 1, 1) := by decide +kernel
theorem dL_split_14 : decode cL_split 14 = .ok (.ireturn, 1) := by decide +kernel
theorem dL_split_15 : decode cL_split 15 = .ok (.astore_n 3, 1) := by decide +kernel
theorem dL_split_16 : decode cL_split 16 = .ok (.iconst 2, 1) := by decide +kernel
theorem dL_split_17 : decode cL_split 17 = .ok (.ireturn, 1) := by decide +kernel
theorem dL_split_18 : decode cL_split 18 = .ok (.iconst 0, 1) := by decide +kernel
theorem dL_split_19 : decode cL_split 19 = .ok (.ireturn, 1) := by decide +kernel
theorem dL_join_0 : decode cL_join 0 = .ok (.aload_n 0, 1) := by decide +kernel
theorem dL_join_1 : decode cL_join 1 = .ok (.iload_n 1, 1) := by decide +kernel
theorem dL_join_2 : decode cL_join 2 = .ok (.invokevirtual 50, 3) := by decide +kernel
theorem dL_join_5 : decode cL_join 5 = .ok (.goto 12, 3) := by decide +kernel
theorem dL_join_8 : decode cL_join 8 = .ok (.astore_n 2, 1) := by decide +kernel
theorem dL_join_9 : decode cL_join 9 = .ok (.iconst 1, 1) := by decide +kernel
theorem dL_join_10 : decode cL_join 10 = .ok (.ireturn, 1) := by decide +kernel
theorem dL_join_11 : decode cL_join 11 = .ok (.astore_n 2, 1) := by decide +kernel
theorem dL_join_12 : decode cL_join 12 = .ok (.iconst 2, 1) := by decide +kernel
theorem dL_join_13 : decode cL_join 13 = .ok (.ireturn, 1) := by decide +kernel
theorem dL_join_14 : decode cL_join 14 = .ok (.astore_n 2, 1) := by decide +kernel
theorem dL_join_15 : decode cL_join 15 = .ok (.iconst 3, 1) := by decide +kernel
theorem dL_join_16 : decode cL_join 16 = .ok (.ireturn, 1) := by decide +kernel
theorem dL_join_17 : decode cL_join 17 = .ok (.iconst 0, 1) := by decide +kernel
theorem dL_join_18 : decode cL_join 18 = .ok (.ireturn, 1) := by decide +kernel
theorem dL_written_0 : decode cL_written 0 = .ok (.aload_n 3, 1) := by decide +kernel
theorem dL_written_1 : decode cL_written 1 = .ok (.iconst 0, 1) := by decide +kernel
theorem dL_written_2 : decode cL_written 2 = .ok (.aload_n 0, 1) := by decide +kernel
theorem dL_written_3 : decode cL_written 3 = .ok (.iload_n 1, 1) := by decide +kernel
theorem dL_written_4 : decode cL_written 4 = .ok (.iload_n 2, 1) := by decide +kernel
theorem dL_written_5 : decode cL_written 5 = .ok (.invokevirtual 55, 3) := by decide +kernel
theorem dL_written_8 : decode cL_written 8 = .ok (.i2l, 1) := by decide +kernel
theorem dL_written_9 : decode cL_written 9 = .ok (.lastore, 1) := by decide +kernel
theorem dL_written_10 : decode cL_written 10 = .ok (.goto 11, 3) := by decide +kernel
theorem dL_written_13 : decode cL_written 13 = .ok (.astore 4, 2) := by decide +kernel
theorem dL_written_15 : decode cL_written 15 = .ok (.iconst 1, 1) := by decide +kernel
theorem dL_written_16 : decode cL_written 16 = .ok (.ireturn, 1) := by decide +kernel
theorem dL_written_17 : decode cL_written 17 = .ok (.astore 4, 2) := by decide +kernel
theorem dL_written_19 : decode cL_written 19 = .ok (.iconst 2, 1) := by decide +kernel
theorem dL_written_20 : decode cL_written 20 = .ok (.ireturn, 1) := by decide +kernel
theorem dL_written_21 : decode cL_written 21 = .ok (.iconst 0, 1) := by decide +kernel
theorem dL_written_22 : decode cL_written 22 = .ok (.ireturn, 1) := by decide +kernel
theorem dL_type_0 : decode cL_type 0 = .ok (.aload_n 0, 1) := by decide +kernel
theorem dL_type_1 : decode cL_type 1 = .ok (.lload_n 1, 1) := by decide +kernel
theorem dL_type_2 : decode cL_type 2 = .ok (.iload_n 3, 1) := by decide +kernel
theorem dL_type_3 : decode cL_type 3 = .ok (.invokevirtual 61, 3) := by decide +kernel
theorem dL_type_6 : decode cL_type 6 = .ok (.goto 11, 3) := by decide +kernel
theorem dL_type_9 : decode cL_type 9 = .ok (.astore 4, 2) := by decide +kernel
theorem dL_type_11 : decode cL_type 11 = .ok (.iconst 1, 1) := by decide +kernel
theorem dL_type_12 : decode cL_type 12 = .ok (.ireturn, 1) := by decide +kernel
theorem dL_type_13 : decode cL_type 13 = .ok (.astore 4, 2) := by decide +kernel
theorem dL_type_15 : decode cL_type 15 = .ok (.iconst 2, 1) := by decide +kernel
theorem dL_type_16 : decode cL_type 16 = .ok (.ireturn, 1) := by decide +kernel
theorem dL_type_17 : decode cL_type 17 = .ok (.iconst 0, 1) := by decide +kernel
theorem dL_type_18 : decode cL_type 18 = .ok (.ireturn, 1) := by decide +kernel
theorem dL_read_0 : decode cL_read 0 = .ok (.aload_n 1, 1) := by decide +kernel
theorem dL_read_1 : decode cL_read 1 = .ok (.iconst 0, 1) := by decide +kernel
theorem dL_read_2 : decode cL_read 2 = .ok (.aload_n 0, 1) := by decide +kernel
theorem dL_read_3 : decode cL_read 3 = .ok (.invokevirtual 65, 3) := by decide +kernel
theorem dL_read_6 : decode cL_read 6 = .ok (.i2l, 1) := by decide +kernel
theorem dL_read_7 : decode cL_read 7 = .ok (.lastore, 1) := by decide +kernel
theorem dL_read_8 : decode cL_read 8 = .ok (.goto 9, 3) := by decide +kernel
theorem dL_read_11 : decode cL_read 11 = .ok (.astore_n 2, 1) := by decide +kernel
theorem dL_read_12 : decode cL_read 12 = .ok (.iconst 1, 1) := by decide +kernel
theorem dL_read_13 : decode cL_read 13 = .ok (.ireturn, 1) := by decide +kernel
theorem dL_read_14 : decode cL_read 14 = .ok (.astore_n 2, 1) := by decide +kernel
theorem dL_read_15 : decode cL_read 15 = .ok (.iconst 2, 1) := by decide +kernel
theorem dL_read_16 : decode cL_read 16 = .ok (.ireturn, 1) := by decide +kernel
theorem dL_read_17 : decode cL_read 17 = .ok (.iconst 0, 1) := by decide +kernel
theorem dL_read_18 : decode cL_read 18 = .ok (.ireturn, 1) := by decide +kernel
theorem dL_about_0 : decode cL_about 0 = .ok (.aload_n 3, 1) := by decide +kernel
theorem dL_about_1 : decode cL_about 1 = .ok (.iconst 0, 1) := by decide +kernel
theorem dL_about_2 : decode cL_about 2 = .ok (.aload_n 0, 1) := by decide +kernel
theorem dL_about_3 : decode cL_about 3 = .ok (.iload_n 1, 1) := by decide +kernel
theorem dL_about_4 : decode cL_about 4 = .ok (.iload_n 2, 1) := by decide +kernel
theorem dL_about_5 : decode cL_about 5 = .ok (.invokevirtual 68, 3) := by decide +kernel
theorem dL_about_8 : decode cL_about 8 = .ok (.i2l, 1) := by decide +kernel
theorem dL_about_9 : decode cL_about 9 = .ok (.lastore, 1) := by decide +kernel
theorem dL_about_10 : decode cL_about 10 = .ok (.goto 7, 3) := by decide +kernel
theorem dL_about_13 : decode cL_about 13 = .ok (.astore 4, 2) := by decide +kernel
theorem dL_about_15 : decode cL_about 15 = .ok (.iconst 1, 1) := by decide +kernel
theorem dL_about_16 : decode cL_about 16 = .ok (.ireturn, 1) := by decide +kernel
theorem dL_about_17 : decode cL_about 17 = .ok (.iconst 0, 1) := by decide +kernel
theorem dL_about_18 : decode cL_about 18 = .ok (.ireturn, 1) := by decide +kernel
theorem dL_base_0 : decode cL_base 0 = .ok (.aload 4, 2) := by decide +kernel
theorem dL_base_2 : decode cL_base 2 = .ok (.iconst 0, 1) := by decide +kernel
theorem dL_base_3 : decode cL_base 3 = .ok (.aload_n 0, 1) := by decide +kernel
theorem dL_base_4 : decode cL_base 4 = .ok (.iload_n 1, 1) := by decide +kernel
theorem dL_base_5 : decode cL_base 5 = .ok (.iload_n 2, 1) := by decide +kernel
theorem dL_base_6 : decode cL_base 6 = .ok (.iload_n 3, 1) := by decide +kernel
theorem dL_base_7 : decode cL_base 7 = .ok (.invokevirtual 71, 3) := by decide +kernel
theorem dL_base_10 : decode cL_base 10 = .ok (.i2l, 1) := by decide +kernel
theorem dL_base_11 : decode cL_base 11 = .ok (.lastore, 1) := by decide +kernel
theorem dL_base_12 : decode cL_base 12 = .ok (.goto 11, 3) := by decide +kernel
theorem dL_base_15 : decode cL_base 15 = .ok (.astore 5, 2) := by decide +kernel
theorem dL_base_17 : decode cL_base 17 = .ok (.iconst 1, 1) := by decide +kernel
theorem dL_base_18 : decode cL_base 18 = .ok (.ireturn, 1) := by decide +kernel
theorem dL_base_19 : decode cL_base 19 = .ok (.astore 5, 2) := by decide +kernel
theorem dL_base_21 : decode cL_base 21 = .ok (.iconst 2, 1) := by decide +kernel
theorem dL_base_22 : decode cL_base 22 = .ok (.ireturn, 1) := by decide +kernel
theorem dL_base_23 : decode cL_base 23 = .ok (.iconst 0, 1) := by decide +kernel
theorem dL_base_24 : decode cL_base 24 = .ok (.ireturn, 1) := by decide +kernel
theorem dL_found_0 : decode cL_found 0 = .ok (.aload_n 3, 1) := by decide +kernel
theorem dL_found_1 : decode cL_found 1 = .ok (.iconst 0, 1) := by decide +kernel
theorem dL_found_2 : decode cL_found 2 = .ok (.aload_n 0, 1) := by decide +kernel
theorem dL_found_3 : decode cL_found 3 = .ok (.iload_n 1, 1) := by decide +kernel
theorem dL_found_4 : decode cL_found 4 = .ok (.iload_n 2, 1) := by decide +kernel
theorem dL_found_5 : decode cL_found 5 = .ok (.invokevirtual 75, 3) := by decide +kernel
theorem dL_found_8 : decode cL_found 8 = .ok (.i2l, 1) := by decide +kernel
theorem dL_found_9 : decode cL_found 9 = .ok (.lastore, 1) := by decide +kernel
theorem dL_found_10 : decode cL_found 10 = .ok (.goto 7, 3) := by decide +kernel
theorem dL_found_13 : decode cL_found 13 = .ok (.astore 4, 2) := by decide +kernel
theorem dL_found_15 : decode cL_found 15 = .ok (.iconst 1, 1) := by decide +kernel
theorem dL_found_16 : decode cL_found 16 = .ok (.ireturn, 1) := by decide +kernel
theorem dL_found_17 : decode cL_found 17 = .ok (.iconst 0, 1) := by decide +kernel
theorem dL_found_18 : decode cL_found 18 = .ok (.ireturn, 1) := by decide +kernel
theorem dL_mean_0 : decode cL_mean 0 = .ok (.aload_n 3, 1) := by decide +kernel
theorem dL_mean_1 : decode cL_mean 1 = .ok (.iconst 0, 1) := by decide +kernel
theorem dL_mean_2 : decode cL_mean 2 = .ok (.aload_n 0, 1) := by decide +kernel
theorem dL_mean_3 : decode cL_mean 3 = .ok (.iload_n 1, 1) := by decide +kernel
theorem dL_mean_4 : decode cL_mean 4 = .ok (.iload_n 2, 1) := by decide +kernel
theorem dL_mean_5 : decode cL_mean 5 = .ok (.invokevirtual 78, 3) := by decide +kernel
theorem dL_mean_8 : decode cL_mean 8 = .ok (.f2d, 1) := by decide +kernel
theorem dL_mean_9 : decode cL_mean 9 = .ok (.dastore, 1) := by decide +kernel
theorem dL_mean_10 : decode cL_mean 10 = .ok (.goto 11, 3) := by decide +kernel
theorem dL_mean_13 : decode cL_mean 13 = .ok (.astore 4, 2) := by decide +kernel
theorem dL_mean_15 : decode cL_mean 15 = .ok (.iconst 1, 1) := by decide +kernel
theorem dL_mean_16 : decode cL_mean 16 = .ok (.ireturn, 1) := by decide +kernel
theorem dL_mean_17 : decode cL_mean 17 = .ok (.astore 4, 2) := by decide +kernel
theorem dL_mean_19 : decode cL_mean 19 = .ok (.iconst 2, 1) := by decide +kernel
theorem dL_mean_20 : decode cL_mean 20 = .ok (.ireturn, 1) := by decide +kernel
theorem dL_mean_21 : decode cL_mean 21 = .ok (.iconst 0, 1) := by decide +kernel
theorem dL_mean_22 : decode cL_mean 22 = .ok (.ireturn, 1) := by decide +kernel
theorem dL_law_0 : decode cL_law 0 = .ok (.new 8, 3) := by decide +kernel
theorem dL_law_3 : decode cL_law 3 = .ok (.dup, 1) := by decide +kernel
theorem dL_law_4 : decode cL_law 4 = .ok (.invokespecial 82, 3) := by decide +kernel
theorem dL_law_7 : decode cL_law 7 = .ok (.astore_n 1, 1) := by decide +kernel
theorem dL_law_8 : decode cL_law 8 = .ok (.new 83, 3) := by decide +kernel
theorem dL_law_11 : decode cL_law 11 = .ok (.dup, 1) := by decide +kernel
theorem dL_law_12 : decode cL_law 12 = .ok (.invokespecial 85, 3) := by decide +kernel
theorem dL_law_15 : decode cL_law 15 = .ok (.astore_n 2, 1) := by decide +kernel
theorem dL_law_16 : decode cL_law 16 = .ok (.iconst 1, 1) := by decide +kernel
theorem dL_law_17 : decode cL_law 17 = .ok (.newarray .long, 2) := by decide +kernel
theorem dL_law_19 : decode cL_law 19 = .ok (.astore_n 3, 1) := by decide +kernel
theorem dL_law_20 : decode cL_law 20 = .ok (.iconst 1, 1) := by decide +kernel
theorem dL_law_21 : decode cL_law 21 = .ok (.newarray .double, 2) := by decide +kernel
theorem dL_law_23 : decode cL_law 23 = .ok (.astore 4, 2) := by decide +kernel
theorem dL_law_25 : decode cL_law 25 = .ok (.iconst 0, 1) := by decide +kernel
theorem dL_law_26 : decode cL_law 26 = .ok (.istore 5, 2) := by decide +kernel
theorem dL_law_28 : decode cL_law 28 = .ok (.iload 5, 2) := by decide +kernel
theorem dL_law_30 : decode cL_law 30 = .ok (.aload_n 0, 1) := by decide +kernel
theorem dL_law_31 : decode cL_law 31 = .ok (.arraylength, 1) := by decide +kernel
theorem dL_law_32 : decode cL_law 32 = .ok (.iconst 5, 1) := by decide +kernel
theorem dL_law_33 : decode cL_law 33 = .ok (.isub, 1) := by decide +kernel
theorem dL_law_34 : decode cL_law 34 = .ok (.if_icmp .gt 1303, 3) := by decide +kernel
theorem dL_law_37 : decode cL_law 37 = .ok (.aload_n 0, 1) := by decide +kernel
theorem dL_law_38 : decode cL_law 38 = .ok (.iload 5, 2) := by decide +kernel
theorem dL_law_40 : decode cL_law 40 = .ok (.iaload, 1) := by decide +kernel
theorem dL_law_41 : decode cL_law 41 = .ok (.bipush 31, 2) := by decide +kernel
theorem dL_law_43 : decode cL_law 43 = .ok (.iand, 1) := by decide +kernel
theorem dL_law_44 : decode cL_law 44 = .ok (.tableswitch 1287 0 18 #[92, 192, 240, 340, 400, 488, 548, 592, 628, 684, 740, 776, 844, 924, 968, 981, 1049, 1129, 1197], 92) := by decide +kernel
theorem dL_law_136 : decode cL_law 136 = .ok (.aload_n 1, 1) := by decide +kernel
theorem dL_law_137 : decode cL_law 137 = .ok (.aload_n 0, 1) := by decide +kernel
theorem dL_law_138 : decode cL_law 138 = .ok (.iload 5, 2) := by decide +kernel
theorem dL_law_140 : decode cL_law 140 = .ok (.iconst 1, 1) := by decide +kernel
theorem dL_law_141 : decode cL_law 141 = .ok (.iadd, 1) := by decide +kernel
theorem dL_law_142 : decode cL_law 142 = .ok (.iaload, 1) := by decide +kernel
theorem dL_law_143 : decode cL_law 143 = .ok (.i2l, 1) := by decide +kernel
theorem dL_law_144 : decode cL_law 144 = .ok (.bipush 32, 2) := by decide +kernel
theorem dL_law_146 : decode cL_law 146 = .ok (.lshl, 1) := by decide +kernel
theorem dL_law_147 : decode cL_law 147 = .ok (.aload_n 0, 1) := by decide +kernel
theorem dL_law_148 : decode cL_law 148 = .ok (.iload 5, 2) := by decide +kernel
theorem dL_law_150 : decode cL_law 150 = .ok (.iconst 2, 1) := by decide +kernel
theorem dL_law_151 : decode cL_law 151 = .ok (.iadd, 1) := by decide +kernel
theorem dL_law_152 : decode cL_law 152 = .ok (.iaload, 1) := by decide +kernel
theorem dL_law_153 : decode cL_law 153 = .ok (.i2l, 1) := by decide +kernel
theorem dL_law_154 : decode cL_law 154 = .ok (.ldc2_w 86, 3) := by decide +kernel
theorem dL_law_157 : decode cL_law 157 = .ok (.land, 1) := by decide +kernel
theorem dL_law_158 : decode cL_law 158 = .ok (.lor, 1) := by decide +kernel
theorem dL_law_159 : decode cL_law 159 = .ok (.aload_n 0, 1) := by decide +kernel
theorem dL_law_160 : decode cL_law 160 = .ok (.iload 5, 2) := by decide +kernel
theorem dL_law_162 : decode cL_law 162 = .ok (.iconst 3, 1) := by decide +kernel
theorem dL_law_163 : decode cL_law 163 = .ok (.iadd, 1) := by decide +kernel
theorem dL_law_164 : decode cL_law 164 = .ok (.iaload, 1) := by decide +kernel
theorem dL_law_165 : decode cL_law 165 = .ok (.aload_n 3, 1) := by decide +kernel
theorem dL_law_166 : decode cL_law 166 = .ok (.invokestatic 88, 3) := by decide +kernel
theorem dL_law_169 : decode cL_law 169 = .ok (.istore 6, 2) := by decide +kernel
theorem dL_law_171 : decode cL_law 171 = .ok (.aload_n 2, 1) := by decide +kernel
theorem dL_law_172 : decode cL_law 172 = .ok (.aload_n 0, 1) := by decide +kernel
theorem dL_law_173 : decode cL_law 173 = .ok (.iload 5, 2) := by decide +kernel
theorem dL_law_175 : decode cL_law 175 = .ok (.iconst 1, 1) := by decide +kernel
theorem dL_law_176 : decode cL_law 176 = .ok (.iadd, 1) := by decide +kernel
theorem dL_law_177 : decode cL_law 177 = .ok (.iaload, 1) := by decide +kernel
theorem dL_law_178 : decode cL_law 178 = .ok (.i2l, 1) := by decide +kernel
theorem dL_law_179 : decode cL_law 179 = .ok (.bipush 32, 2) := by decide +kernel
theorem dL_law_181 : decode cL_law 181 = .ok (.lshl, 1) := by decide +kernel
theorem dL_law_182 : decode cL_law 182 = .ok (.aload_n 0, 1) := by decide +kernel
theorem dL_law_183 : decode cL_law 183 = .ok (.iload 5, 2) := by decide +kernel
theorem dL_law_185 : decode cL_law 185 = .ok (.iconst 2, 1) := by decide +kernel
theorem dL_law_186 : decode cL_law 186 = .ok (.iadd, 1) := by decide +kernel
theorem dL_law_187 : decode cL_law 187 = .ok (.iaload, 1) := by decide +kernel
theorem dL_law_188 : decode cL_law 188 = .ok (.i2l, 1) := by decide +kernel
theorem dL_law_189 : decode cL_law 189 = .ok (.ldc2_w 86, 3) := by decide +kernel
theorem dL_law_192 : decode cL_law 192 = .ok (.land, 1) := by decide +kernel
theorem dL_law_193 : decode cL_law 193 = .ok (.lor, 1) := by decide +kernel
theorem dL_law_194 : decode cL_law 194 = .ok (.aload_n 0, 1) := by decide +kernel
theorem dL_law_195 : decode cL_law 195 = .ok (.iload 5, 2) := by decide +kernel
theorem dL_law_197 : decode cL_law 197 = .ok (.iconst 3, 1) := by decide +kernel
theorem dL_law_198 : decode cL_law 198 = .ok (.iadd, 1) := by decide +kernel
theorem dL_law_199 : decode cL_law 199 = .ok (.iaload, 1) := by decide +kernel
theorem dL_law_200 : decode cL_law 200 = .ok (.invokevirtual 93, 3) := by decide +kernel
theorem dL_law_203 : decode cL_law 203 = .ok (.istore 7, 2) := by decide +kernel
theorem dL_law_205 : decode cL_law 205 = .ok (.aload_n 2, 1) := by decide +kernel
theorem dL_law_206 : decode cL_law 206 = .ok (.invokevirtual 94, 3) := by decide +kernel
theorem dL_law_209 : decode cL_law 209 = .ok (.iload 6, 2) := by decide +kernel
theorem dL_law_211 : decode cL_law 211 = .ok (.if_icmp .eq 5, 3) := by decide +kernel
theorem dL_law_214 : decode cL_law 214 = .ok (.iconst 0, 1) := by decide +kernel
theorem dL_law_215 : decode cL_law 215 = .ok (.ireturn, 1) := by decide +kernel
theorem dL_law_216 : decode cL_law 216 = .ok (.iload 6, 2) := by decide +kernel
theorem dL_law_218 : decode cL_law 218 = .ok (.ifCond .ne 15, 3) := by decide +kernel
theorem dL_law_221 : decode cL_law 221 = .ok (.aload_n 3, 1) := by decide +kernel
theorem dL_law_222 : decode cL_law 222 = .ok (.iconst 0, 1) := by decide +kernel
theorem dL_law_223 : decode cL_law 223 = .ok (.laload, 1) := by decide +kernel
theorem dL_law_224 : decode cL_law 224 = .ok (.iload 7, 2) := by decide +kernel
theorem dL_law_226 : decode cL_law 226 = .ok (.i2l, 1) := by decide +kernel
theorem dL_law_227 : decode cL_law 227 = .ok (.lcmp, 1) := by decide +kernel
theorem dL_law_228 : decode cL_law 228 = .ok (.ifCond .eq 5, 3) := by decide +kernel
theorem dL_law_231 : decode cL_law 231 = .ok (.iconst 0, 1) := by decide +kernel
theorem dL_law_232 : decode cL_law 232 = .ok (.ireturn, 1) := by decide +kernel
theorem dL_law_233 : decode cL_law 233 = .ok (.goto 1098, 3) := by decide +kernel
theorem dL_law_236 : decode cL_law 236 = .ok (.aload_n 1, 1) := by decide +kernel
theorem dL_law_237 : decode cL_law 237 = .ok (.aload_n 0, 1) := by decide +kernel
theorem dL_law_238 : decode cL_law 238 = .ok (.iload 5, 2) := by decide +kernel
theorem dL_law_240 : decode cL_law 240 = .ok (.iconst 1, 1) := by decide +kernel
theorem dL_law_241 : decode cL_law 241 = .ok (.iadd, 1) := by decide +kernel
theorem dL_law_242 : decode cL_law 242 = .ok (.iaload, 1) := by decide +kernel
theorem dL_law_243 : decode cL_law 243 = .ok (.aload_n 0, 1) := by decide +kernel
theorem dL_law_244 : decode cL_law 244 = .ok (.iload 5, 2) := by decide +kernel
theorem dL_law_246 : decode cL_law 246 = .ok (.iconst 2, 1) := by decide +kernel
theorem dL_law_247 : decode cL_law 247 = .ok (.iadd, 1) := by decide +kernel
theorem dL_law_248 : decode cL_law 248 = .ok (.iaload, 1) := by decide +kernel
theorem dL_law_249 : decode cL_law 249 = .ok (.invokestatic 97, 3) := by decide +kernel
theorem dL_law_252 : decode cL_law 252 = .ok (.istore 6, 2) := by decide +kernel
theorem dL_law_254 : decode cL_law 254 = .ok (.aload_n 2, 1) := by decide +kernel
theorem dL_law_255 : decode cL_law 255 = .ok (.aload_n 0, 1) := by decide +kernel
theorem dL_law_256 : decode cL_law 256 = .ok (.iload 5, 2) := by decide +kernel
theorem dL_law_258 : decode cL_law 258 = .ok (.iconst 1, 1) := by decide +kernel
theorem dL_law_259 : decode cL_law 259 = .ok (.iadd, 1) := by decide +kernel
theorem dL_law_260 : decode cL_law 260 = .ok (.iaload, 1) := by decide +kernel
theorem dL_law_261 : decode cL_law 261 = .ok (.aload_n 0, 1) := by decide +kernel
theorem dL_law_262 : decode cL_law 262 = .ok (.iload 5, 2) := by decide +kernel
theorem dL_law_264 : decode cL_law 264 = .ok (.iconst 2, 1) := by decide +kernel
theorem dL_law_265 : decode cL_law 265 = .ok (.iadd, 1) := by decide +kernel
theorem dL_law_266 : decode cL_law 266 = .ok (.iaload, 1) := by decide +kernel
theorem dL_law_267 : decode cL_law 267 = .ok (.invokevirtual 100, 3) := by decide +kernel
theorem dL_law_270 : decode cL_law 270 = .ok (.aload_n 2, 1) := by decide +kernel
theorem dL_law_271 : decode cL_law 271 = .ok (.invokevirtual 94, 3) := by decide +kernel
theorem dL_law_274 : decode cL_law 274 = .ok (.iload 6, 2) := by decide +kernel
theorem dL_law_276 : decode cL_law 276 = .ok (.if_icmp .eq 5, 3) := by decide +kernel
theorem dL_law_279 : decode cL_law 279 = .ok (.iconst 0, 1) := by decide +kernel
theorem dL_law_280 : decode cL_law 280 = .ok (.ireturn, 1) := by decide +kernel
theorem dL_law_281 : decode cL_law 281 = .ok (.goto 1050, 3) := by decide +kernel
theorem dL_law_284 : decode cL_law 284 = .ok (.aload_n 1, 1) := by decide +kernel
theorem dL_law_285 : decode cL_law 285 = .ok (.aload_n 0, 1) := by decide +kernel
theorem dL_law_286 : decode cL_law 286 = .ok (.iload 5, 2) := by decide +kernel
theorem dL_law_288 : decode cL_law 288 = .ok (.iconst 1, 1) := by decide +kernel
theorem dL_law_289 : decode cL_law 289 = .ok (.iadd, 1) := by decide +kernel
theorem dL_law_290 : decode cL_law 290 = .ok (.iaload, 1) := by decide +kernel
theorem dL_law_291 : decode cL_law 291 = .ok (.i2l, 1) := by decide +kernel
theorem dL_law_292 : decode cL_law 292 = .ok (.bipush 32, 2) := by decide +kernel
theorem dL_law_294 : decode cL_law 294 = .ok (.lshl, 1) := by decide +kernel
theorem dL_law_295 : decode cL_law 295 = .ok (.aload_n 0, 1) := by decide +kernel
theorem dL_law_296 : decode cL_law 296 = .ok (.iload 5, 2) := by decide +kernel
theorem dL_law_298 : decode cL_law 298 = .ok (.iconst 2, 1) := by decide +kernel
theorem dL_law_299 : decode cL_law 299 = .ok (.iadd, 1) := by decide +kernel
theorem dL_law_300 : decode cL_law 300 = .ok (.iaload, 1) := by decide +kernel
theorem dL_law_301 : decode cL_law 301 = .ok (.i2l, 1) := by decide +kernel
theorem dL_law_302 : decode cL_law 302 = .ok (.ldc2_w 86, 3) := by decide +kernel
theorem dL_law_305 : decode cL_law 305 = .ok (.land, 1) := by decide +kernel
theorem dL_law_306 : decode cL_law 306 = .ok (.lor, 1) := by decide +kernel
theorem dL_law_307 : decode cL_law 307 = .ok (.aload_n 0, 1) := by decide +kernel
theorem dL_law_308 : decode cL_law 308 = .ok (.iload 5, 2) := by decide +kernel
theorem dL_law_310 : decode cL_law 310 = .ok (.iconst 3, 1) := by decide +kernel
theorem dL_law_311 : decode cL_law 311 = .ok (.iadd, 1) := by decide +kernel
theorem dL_law_312 : decode cL_law 312 = .ok (.iaload, 1) := by decide +kernel
theorem dL_law_313 : decode cL_law 313 = .ok (.aload_n 3, 1) := by decide +kernel
theorem dL_law_314 : decode cL_law 314 = .ok (.invokestatic 101, 3) := by decide +kernel
theorem dL_law_317 : decode cL_law 317 = .ok (.istore 6, 2) := by decide +kernel
theorem dL_law_319 : decode cL_law 319 = .ok (.aload_n 2, 1) := by decide +kernel
theorem dL_law_320 : decode cL_law 320 = .ok (.aload_n 0, 1) := by decide +kernel
theorem dL_law_321 : decode cL_law 321 = .ok (.iload 5, 2) := by decide +kernel
theorem dL_law_323 : decode cL_law 323 = .ok (.iconst 1, 1) := by decide +kernel
theorem dL_law_324 : decode cL_law 324 = .ok (.iadd, 1) := by decide +kernel
theorem dL_law_325 : decode cL_law 325 = .ok (.iaload, 1) := by decide +kernel
theorem dL_law_326 : decode cL_law 326 = .ok (.i2l, 1) := by decide +kernel
theorem dL_law_327 : decode cL_law 327 = .ok (.bipush 32, 2) := by decide +kernel
theorem dL_law_329 : decode cL_law 329 = .ok (.lshl, 1) := by decide +kernel
theorem dL_law_330 : decode cL_law 330 = .ok (.aload_n 0, 1) := by decide +kernel
theorem dL_law_331 : decode cL_law 331 = .ok (.iload 5, 2) := by decide +kernel
theorem dL_law_333 : decode cL_law 333 = .ok (.iconst 2, 1) := by decide +kernel
theorem dL_law_334 : decode cL_law 334 = .ok (.iadd, 1) := by decide +kernel
theorem dL_law_335 : decode cL_law 335 = .ok (.iaload, 1) := by decide +kernel
theorem dL_law_336 : decode cL_law 336 = .ok (.i2l, 1) := by decide +kernel
theorem dL_law_337 : decode cL_law 337 = .ok (.ldc2_w 86, 3) := by decide +kernel
theorem dL_law_340 : decode cL_law 340 = .ok (.land, 1) := by decide +kernel
theorem dL_law_341 : decode cL_law 341 = .ok (.lor, 1) := by decide +kernel
theorem dL_law_342 : decode cL_law 342 = .ok (.aload_n 0, 1) := by decide +kernel
theorem dL_law_343 : decode cL_law 343 = .ok (.iload 5, 2) := by decide +kernel
theorem dL_law_345 : decode cL_law 345 = .ok (.iconst 3, 1) := by decide +kernel
theorem dL_law_346 : decode cL_law 346 = .ok (.iadd, 1) := by decide +kernel
theorem dL_law_347 : decode cL_law 347 = .ok (.iaload, 1) := by decide +kernel
theorem dL_law_348 : decode cL_law 348 = .ok (.invokevirtual 103, 3) := by decide +kernel
theorem dL_law_351 : decode cL_law 351 = .ok (.istore 7, 2) := by decide +kernel
theorem dL_law_353 : decode cL_law 353 = .ok (.aload_n 2, 1) := by decide +kernel
theorem dL_law_354 : decode cL_law 354 = .ok (.invokevirtual 94, 3) := by decide +kernel
theorem dL_law_357 : decode cL_law 357 = .ok (.iload 6, 2) := by decide +kernel
theorem dL_law_359 : decode cL_law 359 = .ok (.if_icmp .eq 5, 3) := by decide +kernel
theorem dL_law_362 : decode cL_law 362 = .ok (.iconst 0, 1) := by decide +kernel
theorem dL_law_363 : decode cL_law 363 = .ok (.ireturn, 1) := by decide +kernel
theorem dL_law_364 : decode cL_law 364 = .ok (.iload 6, 2) := by decide +kernel
theorem dL_law_366 : decode cL_law 366 = .ok (.ifCond .ne 15, 3) := by decide +kernel
theorem dL_law_369 : decode cL_law 369 = .ok (.aload_n 3, 1) := by decide +kernel
theorem dL_law_370 : decode cL_law 370 = .ok (.iconst 0, 1) := by decide +kernel
theorem dL_law_371 : decode cL_law 371 = .ok (.laload, 1) := by decide +kernel
theorem dL_law_372 : decode cL_law 372 = .ok (.iload 7, 2) := by decide +kernel
theorem dL_law_374 : decode cL_law 374 = .ok (.i2l, 1) := by decide +kernel
theorem dL_law_375 : decode cL_law 375 = .ok (.lcmp, 1) := by decide +kernel
theorem dL_law_376 : decode cL_law 376 = .ok (.ifCond .eq 5, 3) := by decide +kernel
theorem dL_law_379 : decode cL_law 379 = .ok (.iconst 0, 1) := by decide +kernel
theorem dL_law_380 : decode cL_law 380 = .ok (.ireturn, 1) := by decide +kernel
theorem dL_law_381 : decode cL_law 381 = .ok (.goto 950, 3) := by decide +kernel
theorem dL_law_384 : decode cL_law 384 = .ok (.aload_n 1, 1) := by decide +kernel
theorem dL_law_385 : decode cL_law 385 = .ok (.aload_n 0, 1) := by decide +kernel
theorem dL_law_386 : decode cL_law 386 = .ok (.iload 5, 2) := by decide +kernel
theorem dL_law_388 : decode cL_law 388 = .ok (.iconst 1, 1) := by decide +kernel
theorem dL_law_389 : decode cL_law 389 = .ok (.iadd, 1) := by decide +kernel
theorem dL_law_390 : decode cL_law 390 = .ok (.iaload, 1) := by decide +kernel
theorem dL_law_391 : decode cL_law 391 = .ok (.aload_n 0, 1) := by decide +kernel
theorem dL_law_392 : decode cL_law 392 = .ok (.iload 5, 2) := by decide +kernel
theorem dL_law_394 : decode cL_law 394 = .ok (.iconst 2, 1) := by decide +kernel
theorem dL_law_395 : decode cL_law 395 = .ok (.iadd, 1) := by decide +kernel
theorem dL_law_396 : decode cL_law 396 = .ok (.iaload, 1) := by decide +kernel
theorem dL_law_397 : decode cL_law 397 = .ok (.aload_n 0, 1) := by decide +kernel
theorem dL_law_398 : decode cL_law 398 = .ok (.iload 5, 2) := by decide +kernel
theorem dL_law_400 : decode cL_law 400 = .ok (.iconst 3, 1) := by decide +kernel
theorem dL_law_401 : decode cL_law 401 = .ok (.iadd, 1) := by decide +kernel
theorem dL_law_402 : decode cL_law 402 = .ok (.iaload, 1) := by decide +kernel
theorem dL_law_403 : decode cL_law 403 = .ok (.invokestatic 104, 3) := by decide +kernel
theorem dL_law_406 : decode cL_law 406 = .ok (.istore 6, 2) := by decide +kernel
theorem dL_law_408 : decode cL_law 408 = .ok (.aload_n 2, 1) := by decide +kernel
theorem dL_law_409 : decode cL_law 409 = .ok (.aload_n 0, 1) := by decide +kernel
theorem dL_law_410 : decode cL_law 410 = .ok (.iload 5, 2) := by decide +kernel
theorem dL_law_412 : decode cL_law 412 = .ok (.iconst 1, 1) := by decide +kernel
theorem dL_law_413 : decode cL_law 413 = .ok (.iadd, 1) := by decide +kernel
theorem dL_law_414 : decode cL_law 414 = .ok (.iaload, 1) := by decide +kernel
theorem dL_law_415 : decode cL_law 415 = .ok (.aload_n 0, 1) := by decide +kernel
theorem dL_law_416 : decode cL_law 416 = .ok (.iload 5, 2) := by decide +kernel
theorem dL_law_418 : decode cL_law 418 = .ok (.iconst 2, 1) := by decide +kernel
theorem dL_law_419 : decode cL_law 419 = .ok (.iadd, 1) := by decide +kernel
theorem dL_law_420 : decode cL_law 420 = .ok (.iaload, 1) := by decide +kernel
theorem dL_law_421 : decode cL_law 421 = .ok (.aload_n 0, 1) := by decide +kernel
theorem dL_law_422 : decode cL_law 422 = .ok (.iload 5, 2) := by decide +kernel
theorem dL_law_424 : decode cL_law 424 = .ok (.iconst 3, 1) := by decide +kernel
theorem dL_law_425 : decode cL_law 425 = .ok (.iadd, 1) := by decide +kernel
theorem dL_law_426 : decode cL_law 426 = .ok (.iaload, 1) := by decide +kernel
theorem dL_law_427 : decode cL_law 427 = .ok (.invokevirtual 107, 3) := by decide +kernel
theorem dL_law_430 : decode cL_law 430 = .ok (.aload_n 2, 1) := by decide +kernel
theorem dL_law_431 : decode cL_law 431 = .ok (.invokevirtual 94, 3) := by decide +kernel
theorem dL_law_434 : decode cL_law 434 = .ok (.iload 6, 2) := by decide +kernel
theorem dL_law_436 : decode cL_law 436 = .ok (.if_icmp .eq 5, 3) := by decide +kernel
theorem dL_law_439 : decode cL_law 439 = .ok (.iconst 0, 1) := by decide +kernel
theorem dL_law_440 : decode cL_law 440 = .ok (.ireturn, 1) := by decide +kernel
theorem dL_law_441 : decode cL_law 441 = .ok (.goto 890, 3) := by decide +kernel
theorem dL_law_444 : decode cL_law 444 = .ok (.aload_n 1, 1) := by decide +kernel
theorem dL_law_445 : decode cL_law 445 = .ok (.aload_n 0, 1) := by decide +kernel
theorem dL_law_446 : decode cL_law 446 = .ok (.iload 5, 2) := by decide +kernel
theorem dL_law_448 : decode cL_law 448 = .ok (.iconst 1, 1) := by decide +kernel
theorem dL_law_449 : decode cL_law 449 = .ok (.iadd, 1) := by decide +kernel
theorem dL_law_450 : decode cL_law 450 = .ok (.iaload, 1) := by decide +kernel
theorem dL_law_451 : decode cL_law 451 = .ok (.aload_n 0, 1) := by decide +kernel
theorem dL_law_452 : decode cL_law 452 = .ok (.iload 5, 2) := by decide +kernel
theorem dL_law_454 : decode cL_law 454 = .ok (.iconst 2, 1) := by decide +kernel
theorem dL_law_455 : decode cL_law 455 = .ok (.iadd, 1) := by decide +kernel
theorem dL_law_456 : decode cL_law 456 = .ok (.iaload, 1) := by decide +kernel
theorem dL_law_457 : decode cL_law 457 = .ok (.aload_n 0, 1) := by decide +kernel
theorem dL_law_458 : decode cL_law 458 = .ok (.iload 5, 2) := by decide +kernel
theorem dL_law_460 : decode cL_law 460 = .ok (.iconst 3, 1) := by decide +kernel
theorem dL_law_461 : decode cL_law 461 = .ok (.iadd, 1) := by decide +kernel
theorem dL_law_462 : decode cL_law 462 = .ok (.iaload, 1) := by decide +kernel
theorem dL_law_463 : decode cL_law 463 = .ok (.aload_n 0, 1) := by decide +kernel
theorem dL_law_464 : decode cL_law 464 = .ok (.iload 5, 2) := by decide +kernel
theorem dL_law_466 : decode cL_law 466 = .ok (.iconst 4, 1) := by decide +kernel
theorem dL_law_467 : decode cL_law 467 = .ok (.iadd, 1) := by decide +kernel
theorem dL_law_468 : decode cL_law 468 = .ok (.iaload, 1) := by decide +kernel
theorem dL_law_469 : decode cL_law 469 = .ok (.ifCond .eq 7, 3) := by decide +kernel
theorem dL_law_472 : decode cL_law 472 = .ok (.iconst 1, 1) := by decide +kernel
theorem dL_law_473 : decode cL_law 473 = .ok (.goto 4, 3) := by decide +kernel
theorem dL_law_476 : decode cL_law 476 = .ok (.iconst 0, 1) := by decide +kernel
theorem dL_law_477 : decode cL_law 477 = .ok (.invokestatic 108, 3) := by decide +kernel
theorem dL_law_480 : decode cL_law 480 = .ok (.istore 6, 2) := by decide +kernel
theorem dL_law_482 : decode cL_law 482 = .ok (.aload_n 2, 1) := by decide +kernel
theorem dL_law_483 : decode cL_law 483 = .ok (.aload_n 0, 1) := by decide +kernel
theorem dL_law_484 : decode cL_law 484 = .ok (.iload 5, 2) := by decide +kernel
theorem dL_law_486 : decode cL_law 486 = .ok (.iconst 1, 1) := by decide +kernel
theorem dL_law_487 : decode cL_law 487 = .ok (.iadd, 1) := by decide +kernel
theorem dL_law_488 : decode cL_law 488 = .ok (.iaload, 1) := by decide +kernel
theorem dL_law_489 : decode cL_law 489 = .ok (.aload_n 0, 1) := by decide +kernel
theorem dL_law_490 : decode cL_law 490 = .ok (.iload 5, 2) := by decide +kernel
theorem dL_law_492 : decode cL_law 492 = .ok (.iconst 2, 1) := by decide +kernel
theorem dL_law_493 : decode cL_law 493 = .ok (.iadd, 1) := by decide +kernel
theorem dL_law_494 : decode cL_law 494 = .ok (.iaload, 1) := by decide +kernel
theorem dL_law_495 : decode cL_law 495 = .ok (.aload_n 0, 1) := by decide +kernel
theorem dL_law_496 : decode cL_law 496 = .ok (.iload 5, 2) := by decide +kernel
theorem dL_law_498 : decode cL_law 498 = .ok (.iconst 3, 1) := by decide +kernel
theorem dL_law_499 : decode cL_law 499 = .ok (.iadd, 1) := by decide +kernel
theorem dL_law_500 : decode cL_law 500 = .ok (.iaload, 1) := by decide +kernel
theorem dL_law_501 : decode cL_law 501 = .ok (.aload_n 0, 1) := by decide +kernel
theorem dL_law_502 : decode cL_law 502 = .ok (.iload 5, 2) := by decide +kernel
theorem dL_law_504 : decode cL_law 504 = .ok (.iconst 4, 1) := by decide +kernel
theorem dL_law_505 : decode cL_law 505 = .ok (.iadd, 1) := by decide +kernel
theorem dL_law_506 : decode cL_law 506 = .ok (.iaload, 1) := by decide +kernel
theorem dL_law_507 : decode cL_law 507 = .ok (.ifCond .eq 7, 3) := by decide +kernel
theorem dL_law_510 : decode cL_law 510 = .ok (.iconst 1, 1) := by decide +kernel
theorem dL_law_511 : decode cL_law 511 = .ok (.goto 4, 3) := by decide +kernel
theorem dL_law_514 : decode cL_law 514 = .ok (.iconst 0, 1) := by decide +kernel
theorem dL_law_515 : decode cL_law 515 = .ok (.invokevirtual 111, 3) := by decide +kernel
theorem dL_law_518 : decode cL_law 518 = .ok (.aload_n 2, 1) := by decide +kernel
theorem dL_law_519 : decode cL_law 519 = .ok (.invokevirtual 94, 3) := by decide +kernel
theorem dL_law_522 : decode cL_law 522 = .ok (.iload 6, 2) := by decide +kernel
theorem dL_law_524 : decode cL_law 524 = .ok (.if_icmp .eq 5, 3) := by decide +kernel
theorem dL_law_527 : decode cL_law 527 = .ok (.iconst 0, 1) := by decide +kernel
theorem dL_law_528 : decode cL_law 528 = .ok (.ireturn, 1) := by decide +kernel
theorem dL_law_529 : decode cL_law 529 = .ok (.goto 802, 3) := by decide +kernel
theorem dL_law_532 : decode cL_law 532 = .ok (.aload_n 1, 1) := by decide +kernel
theorem dL_law_533 : decode cL_law 533 = .ok (.aload_n 0, 1) := by decide +kernel
theorem dL_law_534 : decode cL_law 534 = .ok (.iload 5, 2) := by decide +kernel
theorem dL_law_536 : decode cL_law 536 = .ok (.iconst 1, 1) := by decide +kernel
theorem dL_law_537 : decode cL_law 537 = .ok (.iadd, 1) := by decide +kernel
theorem dL_law_538 : decode cL_law 538 = .ok (.iaload, 1) := by decide +kernel
theorem dL_law_539 : decode cL_law 539 = .ok (.aload_n 0, 1) := by decide +kernel
theorem dL_law_540 : decode cL_law 540 = .ok (.iload 5, 2) := by decide +kernel
theorem dL_law_542 : decode cL_law 542 = .ok (.iconst 2, 1) := by decide +kernel
theorem dL_law_543 : decode cL_law 543 = .ok (.iadd, 1) := by decide +kernel
theorem dL_law_544 : decode cL_law 544 = .ok (.iaload, 1) := by decide +kernel
theorem dL_law_545 : decode cL_law 545 = .ok (.aload_n 0, 1) := by decide +kernel
theorem dL_law_546 : decode cL_law 546 = .ok (.iload 5, 2) := by decide +kernel
theorem dL_law_548 : decode cL_law 548 = .ok (.iconst 3, 1) := by decide +kernel
theorem dL_law_549 : decode cL_law 549 = .ok (.iadd, 1) := by decide +kernel
theorem dL_law_550 : decode cL_law 550 = .ok (.iaload, 1) := by decide +kernel
theorem dL_law_551 : decode cL_law 551 = .ok (.invokestatic 112, 3) := by decide +kernel
theorem dL_law_554 : decode cL_law 554 = .ok (.istore 6, 2) := by decide +kernel
theorem dL_law_556 : decode cL_law 556 = .ok (.aload_n 2, 1) := by decide +kernel
theorem dL_law_557 : decode cL_law 557 = .ok (.aload_n 0, 1) := by decide +kernel
theorem dL_law_558 : decode cL_law 558 = .ok (.iload 5, 2) := by decide +kernel
theorem dL_law_560 : decode cL_law 560 = .ok (.iconst 1, 1) := by decide +kernel
theorem dL_law_561 : decode cL_law 561 = .ok (.iadd, 1) := by decide +kernel
theorem dL_law_562 : decode cL_law 562 = .ok (.iaload, 1) := by decide +kernel
theorem dL_law_563 : decode cL_law 563 = .ok (.aload_n 0, 1) := by decide +kernel
theorem dL_law_564 : decode cL_law 564 = .ok (.iload 5, 2) := by decide +kernel
theorem dL_law_566 : decode cL_law 566 = .ok (.iconst 2, 1) := by decide +kernel
theorem dL_law_567 : decode cL_law 567 = .ok (.iadd, 1) := by decide +kernel
theorem dL_law_568 : decode cL_law 568 = .ok (.iaload, 1) := by decide +kernel
theorem dL_law_569 : decode cL_law 569 = .ok (.aload_n 0, 1) := by decide +kernel
theorem dL_law_570 : decode cL_law 570 = .ok (.iload 5, 2) := by decide +kernel
theorem dL_law_572 : decode cL_law 572 = .ok (.iconst 3, 1) := by decide +kernel
theorem dL_law_573 : decode cL_law 573 = .ok (.iadd, 1) := by decide +kernel
theorem dL_law_574 : decode cL_law 574 = .ok (.iaload, 1) := by decide +kernel
theorem dL_law_575 : decode cL_law 575 = .ok (.invokevirtual 114, 3) := by decide +kernel
theorem dL_law_578 : decode cL_law 578 = .ok (.aload_n 2, 1) := by decide +kernel
theorem dL_law_579 : decode cL_law 579 = .ok (.invokevirtual 94, 3) := by decide +kernel
theorem dL_law_582 : decode cL_law 582 = .ok (.iload 6, 2) := by decide +kernel
theorem dL_law_584 : decode cL_law 584 = .ok (.if_icmp .eq 5, 3) := by decide +kernel
theorem dL_law_587 : decode cL_law 587 = .ok (.iconst 0, 1) := by decide +kernel
theorem dL_law_588 : decode cL_law 588 = .ok (.ireturn, 1) := by decide +kernel
theorem dL_law_589 : decode cL_law 589 = .ok (.goto 742, 3) := by decide +kernel
theorem dL_law_592 : decode cL_law 592 = .ok (.aload_n 1, 1) := by decide +kernel
theorem dL_law_593 : decode cL_law 593 = .ok (.aload_n 3, 1) := by decide +kernel
theorem dL_law_594 : decode cL_law 594 = .ok (.invokestatic 115, 3) := by decide +kernel
theorem dL_law_597 : decode cL_law 597 = .ok (.istore 6, 2) := by decide +kernel
theorem dL_law_599 : decode cL_law 599 = .ok (.aload_n 2, 1) := by decide +kernel
theorem dL_law_600 : decode cL_law 600 = .ok (.invokevirtual 118, 3) := by decide +kernel
theorem dL_law_603 : decode cL_law 603 = .ok (.istore 7, 2) := by decide +kernel
theorem dL_law_605 : decode cL_law 605 = .ok (.aload_n 2, 1) := by decide +kernel
theorem dL_law_606 : decode cL_law 606 = .ok (.invokevirtual 94, 3) := by decide +kernel
theorem dL_law_609 : decode cL_law 609 = .ok (.iload 6, 2) := by decide +kernel
theorem dL_law_611 : decode cL_law 611 = .ok (.if_icmp .eq 5, 3) := by decide +kernel
theorem dL_law_614 : decode cL_law 614 = .ok (.iconst 0, 1) := by decide +kernel
theorem dL_law_615 : decode cL_law 615 = .ok (.ireturn, 1) := by decide +kernel
theorem dL_law_616 : decode cL_law 616 = .ok (.iload 6, 2) := by decide +kernel
theorem dL_law_618 : decode cL_law 618 = .ok (.ifCond .ne 15, 3) := by decide +kernel
theorem dL_law_621 : decode cL_law 621 = .ok (.aload_n 3, 1) := by decide +kernel
theorem dL_law_622 : decode cL_law 622 = .ok (.iconst 0, 1) := by decide +kernel
theorem dL_law_623 : decode cL_law 623 = .ok (.laload, 1) := by decide +kernel
theorem dL_law_624 : decode cL_law 624 = .ok (.iload 7, 2) := by decide +kernel
theorem dL_law_626 : decode cL_law 626 = .ok (.i2l, 1) := by decide +kernel
theorem dL_law_627 : decode cL_law 627 = .ok (.lcmp, 1) := by decide +kernel
theorem dL_law_628 : decode cL_law 628 = .ok (.ifCond .eq 5, 3) := by decide +kernel
theorem dL_law_631 : decode cL_law 631 = .ok (.iconst 0, 1) := by decide +kernel
theorem dL_law_632 : decode cL_law 632 = .ok (.ireturn, 1) := by decide +kernel
theorem dL_law_633 : decode cL_law 633 = .ok (.goto 698, 3) := by decide +kernel
theorem dL_law_636 : decode cL_law 636 = .ok (.aload_n 1, 1) := by decide +kernel
theorem dL_law_637 : decode cL_law 637 = .ok (.aload_n 0, 1) := by decide +kernel
theorem dL_law_638 : decode cL_law 638 = .ok (.iload 5, 2) := by decide +kernel
theorem dL_law_640 : decode cL_law 640 = .ok (.iconst 1, 1) := by decide +kernel
theorem dL_law_641 : decode cL_law 641 = .ok (.iadd, 1) := by decide +kernel
theorem dL_law_642 : decode cL_law 642 = .ok (.iaload, 1) := by decide +kernel
theorem dL_law_643 : decode cL_law 643 = .ok (.invokestatic 119, 3) := by decide +kernel
theorem dL_law_646 : decode cL_law 646 = .ok (.istore 6, 2) := by decide +kernel
theorem dL_law_648 : decode cL_law 648 = .ok (.aload_n 2, 1) := by decide +kernel
theorem dL_law_649 : decode cL_law 649 = .ok (.aload_n 0, 1) := by decide +kernel
theorem dL_law_650 : decode cL_law 650 = .ok (.iload 5, 2) := by decide +kernel
theorem dL_law_652 : decode cL_law 652 = .ok (.iconst 1, 1) := by decide +kernel
theorem dL_law_653 : decode cL_law 653 = .ok (.iadd, 1) := by decide +kernel
theorem dL_law_654 : decode cL_law 654 = .ok (.iaload, 1) := by decide +kernel
theorem dL_law_655 : decode cL_law 655 = .ok (.invokevirtual 122, 3) := by decide +kernel
theorem dL_law_658 : decode cL_law 658 = .ok (.aload_n 2, 1) := by decide +kernel
theorem dL_law_659 : decode cL_law 659 = .ok (.invokevirtual 94, 3) := by decide +kernel
theorem dL_law_662 : decode cL_law 662 = .ok (.iload 6, 2) := by decide +kernel
theorem dL_law_664 : decode cL_law 664 = .ok (.if_icmp .eq 5, 3) := by decide +kernel
theorem dL_law_667 : decode cL_law 667 = .ok (.iconst 0, 1) := by decide +kernel
theorem dL_law_668 : decode cL_law 668 = .ok (.ireturn, 1) := by decide +kernel
theorem dL_law_669 : decode cL_law 669 = .ok (.goto 662, 3) := by decide +kernel
theorem dL_law_672 : decode cL_law 672 = .ok (.aload_n 1, 1) := by decide +kernel
theorem dL_law_673 : decode cL_law 673 = .ok (.aload_n 0, 1) := by decide +kernel
theorem dL_law_674 : decode cL_law 674 = .ok (.iload 5, 2) := by decide +kernel
theorem dL_law_676 : decode cL_law 676 = .ok (.iconst 1, 1) := by decide +kernel
theorem dL_law_677 : decode cL_law 677 = .ok (.iadd, 1) := by decide +kernel
theorem dL_law_678 : decode cL_law 678 = .ok (.iaload, 1) := by decide +kernel
theorem dL_law_679 : decode cL_law 679 = .ok (.aload_n 3, 1) := by decide +kernel
theorem dL_law_680 : decode cL_law 680 = .ok (.invokestatic 123, 3) := by decide +kernel
theorem dL_law_683 : decode cL_law 683 = .ok (.istore 6, 2) := by decide +kernel
theorem dL_law_685 : decode cL_law 685 = .ok (.aload_n 2, 1) := by decide +kernel
theorem dL_law_686 : decode cL_law 686 = .ok (.aload_n 0, 1) := by decide +kernel
theorem dL_law_687 : decode cL_law 687 = .ok (.iload 5, 2) := by decide +kernel
theorem dL_law_689 : decode cL_law 689 = .ok (.iconst 1, 1) := by decide +kernel
theorem dL_law_690 : decode cL_law 690 = .ok (.iadd, 1) := by decide +kernel
theorem dL_law_691 : decode cL_law 691 = .ok (.iaload, 1) := by decide +kernel
theorem dL_law_692 : decode cL_law 692 = .ok (.invokevirtual 126, 3) := by decide +kernel
theorem dL_law_695 : decode cL_law 695 = .ok (.istore 7, 2) := by decide +kernel
theorem dL_law_697 : decode cL_law 697 = .ok (.aload_n 2, 1) := by decide +kernel
theorem dL_law_698 : decode cL_law 698 = .ok (.invokevirtual 94, 3) := by decide +kernel
theorem dL_law_701 : decode cL_law 701 = .ok (.iload 6, 2) := by decide +kernel
theorem dL_law_703 : decode cL_law 703 = .ok (.if_icmp .eq 5, 3) := by decide +kernel
theorem dL_law_706 : decode cL_law 706 = .ok (.iconst 0, 1) := by decide +kernel
theorem dL_law_707 : decode cL_law 707 = .ok (.ireturn, 1) := by decide +kernel
theorem dL_law_708 : decode cL_law 708 = .ok (.iload 6, 2) := by decide +kernel
theorem dL_law_710 : decode cL_law 710 = .ok (.ifCond .ne 15, 3) := by decide +kernel
theorem dL_law_713 : decode cL_law 713 = .ok (.aload_n 3, 1) := by decide +kernel
theorem dL_law_714 : decode cL_law 714 = .ok (.iconst 0, 1) := by decide +kernel
theorem dL_law_715 : decode cL_law 715 = .ok (.laload, 1) := by decide +kernel
theorem dL_law_716 : decode cL_law 716 = .ok (.iload 7, 2) := by decide +kernel
theorem dL_law_718 : decode cL_law 718 = .ok (.i2l, 1) := by decide +kernel
theorem dL_law_719 : decode cL_law 719 = .ok (.lcmp, 1) := by decide +kernel
theorem dL_law_720 : decode cL_law 720 = .ok (.ifCond .eq 5, 3) := by decide +kernel
theorem dL_law_723 : decode cL_law 723 = .ok (.iconst 0, 1) := by decide +kernel
theorem dL_law_724 : decode cL_law 724 = .ok (.ireturn, 1) := by decide +kernel
theorem dL_law_725 : decode cL_law 725 = .ok (.goto 606, 3) := by decide +kernel
theorem dL_law_728 : decode cL_law 728 = .ok (.aload_n 1, 1) := by decide +kernel
theorem dL_law_729 : decode cL_law 729 = .ok (.aload_n 0, 1) := by decide +kernel
theorem dL_law_730 : decode cL_law 730 = .ok (.iload 5, 2) := by decide +kernel
theorem dL_law_732 : decode cL_law 732 = .ok (.iconst 1, 1) := by decide +kernel
theorem dL_law_733 : decode cL_law 733 = .ok (.iadd, 1) := by decide +kernel
theorem dL_law_734 : decode cL_law 734 = .ok (.iaload, 1) := by decide +kernel
theorem dL_law_735 : decode cL_law 735 = .ok (.aload_n 3, 1) := by decide +kernel
theorem dL_law_736 : decode cL_law 736 = .ok (.invokestatic 127, 3) := by decide +kernel
theorem dL_law_739 : decode cL_law 739 = .ok (.istore 6, 2) := by decide +kernel
theorem dL_law_741 : decode cL_law 741 = .ok (.aload_n 2, 1) := by decide +kernel
theorem dL_law_742 : decode cL_law 742 = .ok (.aload_n 0, 1) := by decide +kernel
theorem dL_law_743 : decode cL_law 743 = .ok (.iload 5, 2) := by decide +kernel
theorem dL_law_745 : decode cL_law 745 = .ok (.iconst 1, 1) := by decide +kernel
theorem dL_law_746 : decode cL_law 746 = .ok (.iadd, 1) := by decide +kernel
theorem dL_law_747 : decode cL_law 747 = .ok (.iaload, 1) := by decide +kernel
theorem dL_law_748 : decode cL_law 748 = .ok (.invokevirtual 129, 3) := by decide +kernel
theorem dL_law_751 : decode cL_law 751 = .ok (.istore 7, 2) := by decide +kernel
theorem dL_law_753 : decode cL_law 753 = .ok (.aload_n 2, 1) := by decide +kernel
theorem dL_law_754 : decode cL_law 754 = .ok (.invokevirtual 94, 3) := by decide +kernel
theorem dL_law_757 : decode cL_law 757 = .ok (.iload 6, 2) := by decide +kernel
theorem dL_law_759 : decode cL_law 759 = .ok (.if_icmp .eq 5, 3) := by decide +kernel
theorem dL_law_762 : decode cL_law 762 = .ok (.iconst 0, 1) := by decide +kernel
theorem dL_law_763 : decode cL_law 763 = .ok (.ireturn, 1) := by decide +kernel
theorem dL_law_764 : decode cL_law 764 = .ok (.iload 6, 2) := by decide +kernel
theorem dL_law_766 : decode cL_law 766 = .ok (.ifCond .ne 15, 3) := by decide +kernel
theorem dL_law_769 : decode cL_law 769 = .ok (.aload_n 3, 1) := by decide +kernel
theorem dL_law_770 : decode cL_law 770 = .ok (.iconst 0, 1) := by decide +kernel
theorem dL_law_771 : decode cL_law 771 = .ok (.laload, 1) := by decide +kernel
theorem dL_law_772 : decode cL_law 772 = .ok (.iload 7, 2) := by decide +kernel
theorem dL_law_774 : decode cL_law 774 = .ok (.i2l, 1) := by decide +kernel
theorem dL_law_775 : decode cL_law 775 = .ok (.lcmp, 1) := by decide +kernel
theorem dL_law_776 : decode cL_law 776 = .ok (.ifCond .eq 5, 3) := by decide +kernel
theorem dL_law_779 : decode cL_law 779 = .ok (.iconst 0, 1) := by decide +kernel
theorem dL_law_780 : decode cL_law 780 = .ok (.ireturn, 1) := by decide +kernel
theorem dL_law_781 : decode cL_law 781 = .ok (.goto 550, 3) := by decide +kernel
theorem dL_law_784 : decode cL_law 784 = .ok (.aload_n 1, 1) := by decide +kernel
theorem dL_law_785 : decode cL_law 785 = .ok (.aload_n 0, 1) := by decide +kernel
theorem dL_law_786 : decode cL_law 786 = .ok (.iload 5, 2) := by decide +kernel
theorem dL_law_788 : decode cL_law 788 = .ok (.iconst 1, 1) := by decide +kernel
theorem dL_law_789 : decode cL_law 789 = .ok (.iadd, 1) := by decide +kernel
theorem dL_law_790 : decode cL_law 790 = .ok (.iaload, 1) := by decide +kernel
theorem dL_law_791 : decode cL_law 791 = .ok (.invokestatic 130, 3) := by decide +kernel
theorem dL_law_794 : decode cL_law 794 = .ok (.istore 6, 2) := by decide +kernel
theorem dL_law_796 : decode cL_law 796 = .ok (.aload_n 2, 1) := by decide +kernel
theorem dL_law_797 : decode cL_law 797 = .ok (.aload_n 0, 1) := by decide +kernel
theorem dL_law_798 : decode cL_law 798 = .ok (.iload 5, 2) := by decide +kernel
theorem dL_law_800 : decode cL_law 800 = .ok (.iconst 1, 1) := by decide +kernel
theorem dL_law_801 : decode cL_law 801 = .ok (.iadd, 1) := by decide +kernel
theorem dL_law_802 : decode cL_law 802 = .ok (.iaload, 1) := by decide +kernel
theorem dL_law_803 : decode cL_law 803 = .ok (.invokevirtual 132, 3) := by decide +kernel
theorem dL_law_806 : decode cL_law 806 = .ok (.aload_n 2, 1) := by decide +kernel
theorem dL_law_807 : decode cL_law 807 = .ok (.invokevirtual 94, 3) := by decide +kernel
theorem dL_law_810 : decode cL_law 810 = .ok (.iload 6, 2) := by decide +kernel
theorem dL_law_812 : decode cL_law 812 = .ok (.if_icmp .eq 5, 3) := by decide +kernel
theorem dL_law_815 : decode cL_law 815 = .ok (.iconst 0, 1) := by decide +kernel
theorem dL_law_816 : decode cL_law 816 = .ok (.ireturn, 1) := by decide +kernel
theorem dL_law_817 : decode cL_law 817 = .ok (.goto 514, 3) := by decide +kernel
theorem dL_law_820 : decode cL_law 820 = .ok (.aload_n 1, 1) := by decide +kernel
theorem dL_law_821 : decode cL_law 821 = .ok (.aload_n 0, 1) := by decide +kernel
theorem dL_law_822 : decode cL_law 822 = .ok (.iload 5, 2) := by decide +kernel
theorem dL_law_824 : decode cL_law 824 = .ok (.iconst 1, 1) := by decide +kernel
theorem dL_law_825 : decode cL_law 825 = .ok (.iadd, 1) := by decide +kernel
theorem dL_law_826 : decode cL_law 826 = .ok (.iaload, 1) := by decide +kernel
theorem dL_law_827 : decode cL_law 827 = .ok (.aload_n 0, 1) := by decide +kernel
theorem dL_law_828 : decode cL_law 828 = .ok (.iload 5, 2) := by decide +kernel
theorem dL_law_830 : decode cL_law 830 = .ok (.iconst 2, 1) := by decide +kernel
theorem dL_law_831 : decode cL_law 831 = .ok (.iadd, 1) := by decide +kernel
theorem dL_law_832 : decode cL_law 832 = .ok (.iaload, 1) := by decide +kernel
theorem dL_law_833 : decode cL_law 833 = .ok (.aload_n 3, 1) := by decide +kernel
theorem dL_law_834 : decode cL_law 834 = .ok (.invokestatic 133, 3) := by decide +kernel
theorem dL_law_837 : decode cL_law 837 = .ok (.istore 6, 2) := by decide +kernel
theorem dL_law_839 : decode cL_law 839 = .ok (.aload_n 2, 1) := by decide +kernel
theorem dL_law_840 : decode cL_law 840 = .ok (.aload_n 0, 1) := by decide +kernel
theorem dL_law_841 : decode cL_law 841 = .ok (.iload 5, 2) := by decide +kernel
theorem dL_law_843 : decode cL_law 843 = .ok (.iconst 1, 1) := by decide +kernel
theorem dL_law_844 : decode cL_law 844 = .ok (.iadd, 1) := by decide +kernel
theorem dL_law_845 : decode cL_law 845 = .ok (.iaload, 1) := by decide +kernel
theorem dL_law_846 : decode cL_law 846 = .ok (.aload_n 0, 1) := by decide +kernel
theorem dL_law_847 : decode cL_law 847 = .ok (.iload 5, 2) := by decide +kernel
theorem dL_law_849 : decode cL_law 849 = .ok (.iconst 2, 1) := by decide +kernel
theorem dL_law_850 : decode cL_law 850 = .ok (.iadd, 1) := by decide +kernel
theorem dL_law_851 : decode cL_law 851 = .ok (.iaload, 1) := by decide +kernel
theorem dL_law_852 : decode cL_law 852 = .ok (.invokevirtual 136, 3) := by decide +kernel
theorem dL_law_855 : decode cL_law 855 = .ok (.istore 7, 2) := by decide +kernel
theorem dL_law_857 : decode cL_law 857 = .ok (.aload_n 2, 1) := by decide +kernel
theorem dL_law_858 : decode cL_law 858 = .ok (.invokevirtual 94, 3) := by decide +kernel
theorem dL_law_861 : decode cL_law 861 = .ok (.iload 6, 2) := by decide +kernel
theorem dL_law_863 : decode cL_law 863 = .ok (.if_icmp .eq 5, 3) := by decide +kernel
theorem dL_law_866 : decode cL_law 866 = .ok (.iconst 0, 1) := by decide +kernel
theorem dL_law_867 : decode cL_law 867 = .ok (.ireturn, 1) := by decide +kernel
theorem dL_law_868 : decode cL_law 868 = .ok (.iload 6, 2) := by decide +kernel
theorem dL_law_870 : decode cL_law 870 = .ok (.ifCond .ne 15, 3) := by decide +kernel
theorem dL_law_873 : decode cL_law 873 = .ok (.aload_n 3, 1) := by decide +kernel
theorem dL_law_874 : decode cL_law 874 = .ok (.iconst 0, 1) := by decide +kernel
theorem dL_law_875 : decode cL_law 875 = .ok (.laload, 1) := by decide +kernel
theorem dL_law_876 : decode cL_law 876 = .ok (.iload 7, 2) := by decide +kernel
theorem dL_law_878 : decode cL_law 878 = .ok (.i2l, 1) := by decide +kernel
theorem dL_law_879 : decode cL_law 879 = .ok (.lcmp, 1) := by decide +kernel
theorem dL_law_880 : decode cL_law 880 = .ok (.ifCond .eq 5, 3) := by decide +kernel
theorem dL_law_883 : decode cL_law 883 = .ok (.iconst 0, 1) := by decide +kernel
theorem dL_law_884 : decode cL_law 884 = .ok (.ireturn, 1) := by decide +kernel
theorem dL_law_885 : decode cL_law 885 = .ok (.goto 446, 3) := by decide +kernel
theorem dL_law_888 : decode cL_law 888 = .ok (.aload_n 1, 1) := by decide +kernel
theorem dL_law_889 : decode cL_law 889 = .ok (.aload_n 0, 1) := by decide +kernel
theorem dL_law_890 : decode cL_law 890 = .ok (.iload 5, 2) := by decide +kernel
theorem dL_law_892 : decode cL_law 892 = .ok (.iconst 1, 1) := by decide +kernel
theorem dL_law_893 : decode cL_law 893 = .ok (.iadd, 1) := by decide +kernel
theorem dL_law_894 : decode cL_law 894 = .ok (.iaload, 1) := by decide +kernel
theorem dL_law_895 : decode cL_law 895 = .ok (.i2l, 1) := by decide +kernel
theorem dL_law_896 : decode cL_law 896 = .ok (.bipush 32, 2) := by decide +kernel
theorem dL_law_898 : decode cL_law 898 = .ok (.lshl, 1) := by decide +kernel
theorem dL_law_899 : decode cL_law 899 = .ok (.aload_n 0, 1) := by decide +kernel
theorem dL_law_900 : decode cL_law 900 = .ok (.iload 5, 2) := by decide +kernel
theorem dL_law_902 : decode cL_law 902 = .ok (.iconst 2, 1) := by decide +kernel
theorem dL_law_903 : decode cL_law 903 = .ok (.iadd, 1) := by decide +kernel
theorem dL_law_904 : decode cL_law 904 = .ok (.iaload, 1) := by decide +kernel
theorem dL_law_905 : decode cL_law 905 = .ok (.i2l, 1) := by decide +kernel
theorem dL_law_906 : decode cL_law 906 = .ok (.ldc2_w 86, 3) := by decide +kernel
theorem dL_law_909 : decode cL_law 909 = .ok (.land, 1) := by decide +kernel
theorem dL_law_910 : decode cL_law 910 = .ok (.lor, 1) := by decide +kernel
theorem dL_law_911 : decode cL_law 911 = .ok (.aload_n 0, 1) := by decide +kernel
theorem dL_law_912 : decode cL_law 912 = .ok (.iload 5, 2) := by decide +kernel
theorem dL_law_914 : decode cL_law 914 = .ok (.iconst 3, 1) := by decide +kernel
theorem dL_law_915 : decode cL_law 915 = .ok (.iadd, 1) := by decide +kernel
theorem dL_law_916 : decode cL_law 916 = .ok (.iaload, 1) := by decide +kernel
theorem dL_law_917 : decode cL_law 917 = .ok (.invokestatic 137, 3) := by decide +kernel
theorem dL_law_920 : decode cL_law 920 = .ok (.istore 6, 2) := by decide +kernel
theorem dL_law_922 : decode cL_law 922 = .ok (.aload_n 2, 1) := by decide +kernel
theorem dL_law_923 : decode cL_law 923 = .ok (.aload_n 0, 1) := by decide +kernel
theorem dL_law_924 : decode cL_law 924 = .ok (.iload 5, 2) := by decide +kernel
theorem dL_law_926 : decode cL_law 926 = .ok (.iconst 1, 1) := by decide +kernel
theorem dL_law_927 : decode cL_law 927 = .ok (.iadd, 1) := by decide +kernel
theorem dL_law_928 : decode cL_law 928 = .ok (.iaload, 1) := by decide +kernel
theorem dL_law_929 : decode cL_law 929 = .ok (.i2l, 1) := by decide +kernel
theorem dL_law_930 : decode cL_law 930 = .ok (.bipush 32, 2) := by decide +kernel
theorem dL_law_932 : decode cL_law 932 = .ok (.lshl, 1) := by decide +kernel
theorem dL_law_933 : decode cL_law 933 = .ok (.aload_n 0, 1) := by decide +kernel
theorem dL_law_934 : decode cL_law 934 = .ok (.iload 5, 2) := by decide +kernel
theorem dL_law_936 : decode cL_law 936 = .ok (.iconst 2, 1) := by decide +kernel
theorem dL_law_937 : decode cL_law 937 = .ok (.iadd, 1) := by decide +kernel
theorem dL_law_938 : decode cL_law 938 = .ok (.iaload, 1) := by decide +kernel
theorem dL_law_939 : decode cL_law 939 = .ok (.i2l, 1) := by decide +kernel
theorem dL_law_940 : decode cL_law 940 = .ok (.ldc2_w 86, 3) := by decide +kernel
theorem dL_law_943 : decode cL_law 943 = .ok (.land, 1) := by decide +kernel
theorem dL_law_944 : decode cL_law 944 = .ok (.lor, 1) := by decide +kernel
theorem dL_law_945 : decode cL_law 945 = .ok (.aload_n 0, 1) := by decide +kernel
theorem dL_law_946 : decode cL_law 946 = .ok (.iload 5, 2) := by decide +kernel
theorem dL_law_948 : decode cL_law 948 = .ok (.iconst 3, 1) := by decide +kernel
theorem dL_law_949 : decode cL_law 949 = .ok (.iadd, 1) := by decide +kernel
theorem dL_law_950 : decode cL_law 950 = .ok (.iaload, 1) := by decide +kernel
theorem dL_law_951 : decode cL_law 951 = .ok (.invokevirtual 140, 3) := by decide +kernel
theorem dL_law_954 : decode cL_law 954 = .ok (.aload_n 2, 1) := by decide +kernel
theorem dL_law_955 : decode cL_law 955 = .ok (.invokevirtual 94, 3) := by decide +kernel
theorem dL_law_958 : decode cL_law 958 = .ok (.iload 6, 2) := by decide +kernel
theorem dL_law_960 : decode cL_law 960 = .ok (.if_icmp .eq 5, 3) := by decide +kernel
theorem dL_law_963 : decode cL_law 963 = .ok (.iconst 0, 1) := by decide +kernel
theorem dL_law_964 : decode cL_law 964 = .ok (.ireturn, 1) := by decide +kernel
theorem dL_law_965 : decode cL_law 965 = .ok (.goto 366, 3) := by decide +kernel
theorem dL_law_968 : decode cL_law 968 = .ok (.aload_n 1, 1) := by decide +kernel
theorem dL_law_969 : decode cL_law 969 = .ok (.aload_n 3, 1) := by decide +kernel
theorem dL_law_970 : decode cL_law 970 = .ok (.invokestatic 141, 3) := by decide +kernel
theorem dL_law_973 : decode cL_law 973 = .ok (.istore 6, 2) := by decide +kernel
theorem dL_law_975 : decode cL_law 975 = .ok (.aload_n 2, 1) := by decide +kernel
theorem dL_law_976 : decode cL_law 976 = .ok (.invokevirtual 143, 3) := by decide +kernel
theorem dL_law_979 : decode cL_law 979 = .ok (.istore 7, 2) := by decide +kernel
theorem dL_law_981 : decode cL_law 981 = .ok (.aload_n 2, 1) := by decide +kernel
theorem dL_law_982 : decode cL_law 982 = .ok (.invokevirtual 94, 3) := by decide +kernel
theorem dL_law_985 : decode cL_law 985 = .ok (.iload 6, 2) := by decide +kernel
theorem dL_law_987 : decode cL_law 987 = .ok (.if_icmp .eq 5, 3) := by decide +kernel
theorem dL_law_990 : decode cL_law 990 = .ok (.iconst 0, 1) := by decide +kernel
theorem dL_law_991 : decode cL_law 991 = .ok (.ireturn, 1) := by decide +kernel
theorem dL_law_992 : decode cL_law 992 = .ok (.iload 6, 2) := by decide +kernel
theorem dL_law_994 : decode cL_law 994 = .ok (.ifCond .ne 15, 3) := by decide +kernel
theorem dL_law_997 : decode cL_law 997 = .ok (.aload_n 3, 1) := by decide +kernel
theorem dL_law_998 : decode cL_law 998 = .ok (.iconst 0, 1) := by decide +kernel
theorem dL_law_999 : decode cL_law 999 = .ok (.laload, 1) := by decide +kernel
theorem dL_law_1000 : decode cL_law 1000 = .ok (.iload 7, 2) := by decide +kernel
theorem dL_law_1002 : decode cL_law 1002 = .ok (.i2l, 1) := by decide +kernel
theorem dL_law_1003 : decode cL_law 1003 = .ok (.lcmp, 1) := by decide +kernel
theorem dL_law_1004 : decode cL_law 1004 = .ok (.ifCond .eq 5, 3) := by decide +kernel
theorem dL_law_1007 : decode cL_law 1007 = .ok (.iconst 0, 1) := by decide +kernel
theorem dL_law_1008 : decode cL_law 1008 = .ok (.ireturn, 1) := by decide +kernel
theorem dL_law_1009 : decode cL_law 1009 = .ok (.goto 322, 3) := by decide +kernel
theorem dL_law_1012 : decode cL_law 1012 = .ok (.aload_n 1, 1) := by decide +kernel
theorem dL_law_1013 : decode cL_law 1013 = .ok (.invokevirtual 144, 3) := by decide +kernel
theorem dL_law_1016 : decode cL_law 1016 = .ok (.aload_n 2, 1) := by decide +kernel
theorem dL_law_1017 : decode cL_law 1017 = .ok (.invokevirtual 147, 3) := by decide +kernel
theorem dL_law_1020 : decode cL_law 1020 = .ok (.if_icmp .eq 311, 3) := by decide +kernel
theorem dL_law_1023 : decode cL_law 1023 = .ok (.iconst 0, 1) := by decide +kernel
theorem dL_law_1024 : decode cL_law 1024 = .ok (.ireturn, 1) := by decide +kernel
theorem dL_law_1025 : decode cL_law 1025 = .ok (.aload_n 1, 1) := by decide +kernel
theorem dL_law_1026 : decode cL_law 1026 = .ok (.aload_n 0, 1) := by decide +kernel
theorem dL_law_1027 : decode cL_law 1027 = .ok (.iload 5, 2) := by decide +kernel
theorem dL_law_1029 : decode cL_law 1029 = .ok (.iconst 1, 1) := by decide +kernel
theorem dL_law_1030 : decode cL_law 1030 = .ok (.iadd, 1) := by decide +kernel
theorem dL_law_1031 : decode cL_law 1031 = .ok (.iaload, 1) := by decide +kernel
theorem dL_law_1032 : decode cL_law 1032 = .ok (.aload_n 0, 1) := by decide +kernel
theorem dL_law_1033 : decode cL_law 1033 = .ok (.iload 5, 2) := by decide +kernel
theorem dL_law_1035 : decode cL_law 1035 = .ok (.iconst 2, 1) := by decide +kernel
theorem dL_law_1036 : decode cL_law 1036 = .ok (.iadd, 1) := by decide +kernel
theorem dL_law_1037 : decode cL_law 1037 = .ok (.iaload, 1) := by decide +kernel
theorem dL_law_1038 : decode cL_law 1038 = .ok (.aload_n 3, 1) := by decide +kernel
theorem dL_law_1039 : decode cL_law 1039 = .ok (.invokestatic 148, 3) := by decide +kernel
theorem dL_law_1042 : decode cL_law 1042 = .ok (.istore 6, 2) := by decide +kernel
theorem dL_law_1044 : decode cL_law 1044 = .ok (.aload_n 2, 1) := by decide +kernel
theorem dL_law_1045 : decode cL_law 1045 = .ok (.aload_n 0, 1) := by decide +kernel
theorem dL_law_1046 : decode cL_law 1046 = .ok (.iload 5, 2) := by decide +kernel
theorem dL_law_1048 : decode cL_law 1048 = .ok (.iconst 1, 1) := by decide +kernel
theorem dL_law_1049 : decode cL_law 1049 = .ok (.iadd, 1) := by decide +kernel
theorem dL_law_1050 : decode cL_law 1050 = .ok (.iaload, 1) := by decide +kernel
theorem dL_law_1051 : decode cL_law 1051 = .ok (.aload_n 0, 1) := by decide +kernel
theorem dL_law_1052 : decode cL_law 1052 = .ok (.iload 5, 2) := by decide +kernel
theorem dL_law_1054 : decode cL_law 1054 = .ok (.iconst 2, 1) := by decide +kernel
theorem dL_law_1055 : decode cL_law 1055 = .ok (.iadd, 1) := by decide +kernel
theorem dL_law_1056 : decode cL_law 1056 = .ok (.iaload, 1) := by decide +kernel
theorem dL_law_1057 : decode cL_law 1057 = .ok (.invokevirtual 150, 3) := by decide +kernel
theorem dL_law_1060 : decode cL_law 1060 = .ok (.istore 7, 2) := by decide +kernel
theorem dL_law_1062 : decode cL_law 1062 = .ok (.aload_n 2, 1) := by decide +kernel
theorem dL_law_1063 : decode cL_law 1063 = .ok (.invokevirtual 94, 3) := by decide +kernel
theorem dL_law_1066 : decode cL_law 1066 = .ok (.iload 6, 2) := by decide +kernel
theorem dL_law_1068 : decode cL_law 1068 = .ok (.if_icmp .eq 5, 3) := by decide +kernel
theorem dL_law_1071 : decode cL_law 1071 = .ok (.iconst 0, 1) := by decide +kernel
theorem dL_law_1072 : decode cL_law 1072 = .ok (.ireturn, 1) := by decide +kernel
theorem dL_law_1073 : decode cL_law 1073 = .ok (.iload 6, 2) := by decide +kernel
theorem dL_law_1075 : decode cL_law 1075 = .ok (.ifCond .ne 15, 3) := by decide +kernel
theorem dL_law_1078 : decode cL_law 1078 = .ok (.aload_n 3, 1) := by decide +kernel
theorem dL_law_1079 : decode cL_law 1079 = .ok (.iconst 0, 1) := by decide +kernel
theorem dL_law_1080 : decode cL_law 1080 = .ok (.laload, 1) := by decide +kernel
theorem dL_law_1081 : decode cL_law 1081 = .ok (.iload 7, 2) := by decide +kernel
theorem dL_law_1083 : decode cL_law 1083 = .ok (.i2l, 1) := by decide +kernel
theorem dL_law_1084 : decode cL_law 1084 = .ok (.lcmp, 1) := by decide +kernel
theorem dL_law_1085 : decode cL_law 1085 = .ok (.ifCond .eq 5, 3) := by decide +kernel
theorem dL_law_1088 : decode cL_law 1088 = .ok (.iconst 0, 1) := by decide +kernel
theorem dL_law_1089 : decode cL_law 1089 = .ok (.ireturn, 1) := by decide +kernel
theorem dL_law_1090 : decode cL_law 1090 = .ok (.goto 241, 3) := by decide +kernel
theorem dL_law_1093 : decode cL_law 1093 = .ok (.aload_n 1, 1) := by decide +kernel
theorem dL_law_1094 : decode cL_law 1094 = .ok (.aload_n 0, 1) := by decide +kernel
theorem dL_law_1095 : decode cL_law 1095 = .ok (.iload 5, 2) := by decide +kernel
theorem dL_law_1097 : decode cL_law 1097 = .ok (.iconst 1, 1) := by decide +kernel
theorem dL_law_1098 : decode cL_law 1098 = .ok (.iadd, 1) := by decide +kernel
theorem dL_law_1099 : decode cL_law 1099 = .ok (.iaload, 1) := by decide +kernel
theorem dL_law_1100 : decode cL_law 1100 = .ok (.aload_n 0, 1) := by decide +kernel
theorem dL_law_1101 : decode cL_law 1101 = .ok (.iload 5, 2) := by decide +kernel
theorem dL_law_1103 : decode cL_law 1103 = .ok (.iconst 2, 1) := by decide +kernel
theorem dL_law_1104 : decode cL_law 1104 = .ok (.iadd, 1) := by decide +kernel
theorem dL_law_1105 : decode cL_law 1105 = .ok (.iaload, 1) := by decide +kernel
theorem dL_law_1106 : decode cL_law 1106 = .ok (.aload_n 0, 1) := by decide +kernel
theorem dL_law_1107 : decode cL_law 1107 = .ok (.iload 5, 2) := by decide +kernel
theorem dL_law_1109 : decode cL_law 1109 = .ok (.iconst 3, 1) := by decide +kernel
theorem dL_law_1110 : decode cL_law 1110 = .ok (.iadd, 1) := by decide +kernel
theorem dL_law_1111 : decode cL_law 1111 = .ok (.iaload, 1) := by decide +kernel
theorem dL_law_1112 : decode cL_law 1112 = .ok (.aload_n 3, 1) := by decide +kernel
theorem dL_law_1113 : decode cL_law 1113 = .ok (.invokestatic 151, 3) := by decide +kernel
theorem dL_law_1116 : decode cL_law 1116 = .ok (.istore 6, 2) := by decide +kernel
theorem dL_law_1118 : decode cL_law 1118 = .ok (.aload_n 2, 1) := by decide +kernel
theorem dL_law_1119 : decode cL_law 1119 = .ok (.aload_n 0, 1) := by decide +kernel
theorem dL_law_1120 : decode cL_law 1120 = .ok (.iload 5, 2) := by decide +kernel
theorem dL_law_1122 : decode cL_law 1122 = .ok (.iconst 1, 1) := by decide +kernel
theorem dL_law_1123 : decode cL_law 1123 = .ok (.iadd, 1) := by decide +kernel
theorem dL_law_1124 : decode cL_law 1124 = .ok (.iaload, 1) := by decide +kernel
theorem dL_law_1125 : decode cL_law 1125 = .ok (.aload_n 0, 1) := by decide +kernel
theorem dL_law_1126 : decode cL_law 1126 = .ok (.iload 5, 2) := by decide +kernel
theorem dL_law_1128 : decode cL_law 1128 = .ok (.iconst 2, 1) := by decide +kernel
theorem dL_law_1129 : decode cL_law 1129 = .ok (.iadd, 1) := by decide +kernel
theorem dL_law_1130 : decode cL_law 1130 = .ok (.iaload, 1) := by decide +kernel
theorem dL_law_1131 : decode cL_law 1131 = .ok (.aload_n 0, 1) := by decide +kernel
theorem dL_law_1132 : decode cL_law 1132 = .ok (.iload 5, 2) := by decide +kernel
theorem dL_law_1134 : decode cL_law 1134 = .ok (.iconst 3, 1) := by decide +kernel
theorem dL_law_1135 : decode cL_law 1135 = .ok (.iadd, 1) := by decide +kernel
theorem dL_law_1136 : decode cL_law 1136 = .ok (.iaload, 1) := by decide +kernel
theorem dL_law_1137 : decode cL_law 1137 = .ok (.invokevirtual 154, 3) := by decide +kernel
theorem dL_law_1140 : decode cL_law 1140 = .ok (.istore 7, 2) := by decide +kernel
theorem dL_law_1142 : decode cL_law 1142 = .ok (.aload_n 2, 1) := by decide +kernel
theorem dL_law_1143 : decode cL_law 1143 = .ok (.invokevirtual 94, 3) := by decide +kernel
theorem dL_law_1146 : decode cL_law 1146 = .ok (.iload 6, 2) := by decide +kernel
theorem dL_law_1148 : decode cL_law 1148 = .ok (.if_icmp .eq 5, 3) := by decide +kernel
theorem dL_law_1151 : decode cL_law 1151 = .ok (.iconst 0, 1) := by decide +kernel
theorem dL_law_1152 : decode cL_law 1152 = .ok (.ireturn, 1) := by decide +kernel
theorem dL_law_1153 : decode cL_law 1153 = .ok (.iload 6, 2) := by decide +kernel
theorem dL_law_1155 : decode cL_law 1155 = .ok (.ifCond .ne 15, 3) := by decide +kernel
theorem dL_law_1158 : decode cL_law 1158 = .ok (.aload_n 3, 1) := by decide +kernel
theorem dL_law_1159 : decode cL_law 1159 = .ok (.iconst 0, 1) := by decide +kernel
theorem dL_law_1160 : decode cL_law 1160 = .ok (.laload, 1) := by decide +kernel
theorem dL_law_1161 : decode cL_law 1161 = .ok (.iload 7, 2) := by decide +kernel
theorem dL_law_1163 : decode cL_law 1163 = .ok (.i2l, 1) := by decide +kernel
theorem dL_law_1164 : decode cL_law 1164 = .ok (.lcmp, 1) := by decide +kernel
theorem dL_law_1165 : decode cL_law 1165 = .ok (.ifCond .eq 5, 3) := by decide +kernel
theorem dL_law_1168 : decode cL_law 1168 = .ok (.iconst 0, 1) := by decide +kernel
theorem dL_law_1169 : decode cL_law 1169 = .ok (.ireturn, 1) := by decide +kernel
theorem dL_law_1170 : decode cL_law 1170 = .ok (.goto 161, 3) := by decide +kernel
theorem dL_law_1173 : decode cL_law 1173 = .ok (.aload_n 1, 1) := by decide +kernel
theorem dL_law_1174 : decode cL_law 1174 = .ok (.aload_n 0, 1) := by decide +kernel
theorem dL_law_1175 : decode cL_law 1175 = .ok (.iload 5, 2) := by decide +kernel
theorem dL_law_1177 : decode cL_law 1177 = .ok (.iconst 1, 1) := by decide +kernel
theorem dL_law_1178 : decode cL_law 1178 = .ok (.iadd, 1) := by decide +kernel
theorem dL_law_1179 : decode cL_law 1179 = .ok (.iaload, 1) := by decide +kernel
theorem dL_law_1180 : decode cL_law 1180 = .ok (.aload_n 0, 1) := by decide +kernel
theorem dL_law_1181 : decode cL_law 1181 = .ok (.iload 5, 2) := by decide +kernel
theorem dL_law_1183 : decode cL_law 1183 = .ok (.iconst 2, 1) := by decide +kernel
theorem dL_law_1184 : decode cL_law 1184 = .ok (.iadd, 1) := by decide +kernel
theorem dL_law_1185 : decode cL_law 1185 = .ok (.iaload, 1) := by decide +kernel
theorem dL_law_1186 : decode cL_law 1186 = .ok (.aload_n 3, 1) := by decide +kernel
theorem dL_law_1187 : decode cL_law 1187 = .ok (.invokestatic 155, 3) := by decide +kernel
theorem dL_law_1190 : decode cL_law 1190 = .ok (.istore 6, 2) := by decide +kernel
theorem dL_law_1192 : decode cL_law 1192 = .ok (.aload_n 2, 1) := by decide +kernel
theorem dL_law_1193 : decode cL_law 1193 = .ok (.aload_n 0, 1) := by decide +kernel
theorem dL_law_1194 : decode cL_law 1194 = .ok (.iload 5, 2) := by decide +kernel
theorem dL_law_1196 : decode cL_law 1196 = .ok (.iconst 1, 1) := by decide +kernel
theorem dL_law_1197 : decode cL_law 1197 = .ok (.iadd, 1) := by decide +kernel
theorem dL_law_1198 : decode cL_law 1198 = .ok (.iaload, 1) := by decide +kernel
theorem dL_law_1199 : decode cL_law 1199 = .ok (.aload_n 0, 1) := by decide +kernel
theorem dL_law_1200 : decode cL_law 1200 = .ok (.iload 5, 2) := by decide +kernel
theorem dL_law_1202 : decode cL_law 1202 = .ok (.iconst 2, 1) := by decide +kernel
theorem dL_law_1203 : decode cL_law 1203 = .ok (.iadd, 1) := by decide +kernel
theorem dL_law_1204 : decode cL_law 1204 = .ok (.iaload, 1) := by decide +kernel
theorem dL_law_1205 : decode cL_law 1205 = .ok (.invokevirtual 157, 3) := by decide +kernel
theorem dL_law_1208 : decode cL_law 1208 = .ok (.istore 7, 2) := by decide +kernel
theorem dL_law_1210 : decode cL_law 1210 = .ok (.aload_n 2, 1) := by decide +kernel
theorem dL_law_1211 : decode cL_law 1211 = .ok (.invokevirtual 94, 3) := by decide +kernel
theorem dL_law_1214 : decode cL_law 1214 = .ok (.iload 6, 2) := by decide +kernel
theorem dL_law_1216 : decode cL_law 1216 = .ok (.if_icmp .eq 5, 3) := by decide +kernel
theorem dL_law_1219 : decode cL_law 1219 = .ok (.iconst 0, 1) := by decide +kernel
theorem dL_law_1220 : decode cL_law 1220 = .ok (.ireturn, 1) := by decide +kernel
theorem dL_law_1221 : decode cL_law 1221 = .ok (.iload 6, 2) := by decide +kernel
theorem dL_law_1223 : decode cL_law 1223 = .ok (.ifCond .ne 15, 3) := by decide +kernel
theorem dL_law_1226 : decode cL_law 1226 = .ok (.aload_n 3, 1) := by decide +kernel
theorem dL_law_1227 : decode cL_law 1227 = .ok (.iconst 0, 1) := by decide +kernel
theorem dL_law_1228 : decode cL_law 1228 = .ok (.laload, 1) := by decide +kernel
theorem dL_law_1229 : decode cL_law 1229 = .ok (.iload 7, 2) := by decide +kernel
theorem dL_law_1231 : decode cL_law 1231 = .ok (.i2l, 1) := by decide +kernel
theorem dL_law_1232 : decode cL_law 1232 = .ok (.lcmp, 1) := by decide +kernel
theorem dL_law_1233 : decode cL_law 1233 = .ok (.ifCond .eq 5, 3) := by decide +kernel
theorem dL_law_1236 : decode cL_law 1236 = .ok (.iconst 0, 1) := by decide +kernel
theorem dL_law_1237 : decode cL_law 1237 = .ok (.ireturn, 1) := by decide +kernel
theorem dL_law_1238 : decode cL_law 1238 = .ok (.goto 93, 3) := by decide +kernel
theorem dL_law_1241 : decode cL_law 1241 = .ok (.aload_n 1, 1) := by decide +kernel
theorem dL_law_1242 : decode cL_law 1242 = .ok (.aload_n 0, 1) := by decide +kernel
theorem dL_law_1243 : decode cL_law 1243 = .ok (.iload 5, 2) := by decide +kernel
theorem dL_law_1245 : decode cL_law 1245 = .ok (.iconst 1, 1) := by decide +kernel
theorem dL_law_1246 : decode cL_law 1246 = .ok (.iadd, 1) := by decide +kernel
theorem dL_law_1247 : decode cL_law 1247 = .ok (.iaload, 1) := by decide +kernel
theorem dL_law_1248 : decode cL_law 1248 = .ok (.aload_n 0, 1) := by decide +kernel
theorem dL_law_1249 : decode cL_law 1249 = .ok (.iload 5, 2) := by decide +kernel
theorem dL_law_1251 : decode cL_law 1251 = .ok (.iconst 2, 1) := by decide +kernel
theorem dL_law_1252 : decode cL_law 1252 = .ok (.iadd, 1) := by decide +kernel
theorem dL_law_1253 : decode cL_law 1253 = .ok (.iaload, 1) := by decide +kernel
theorem dL_law_1254 : decode cL_law 1254 = .ok (.aload 4, 2) := by decide +kernel
theorem dL_law_1256 : decode cL_law 1256 = .ok (.invokestatic 158, 3) := by decide +kernel
theorem dL_law_1259 : decode cL_law 1259 = .ok (.istore 6, 2) := by decide +kernel
theorem dL_law_1261 : decode cL_law 1261 = .ok (.aload_n 2, 1) := by decide +kernel
theorem dL_law_1262 : decode cL_law 1262 = .ok (.aload_n 0, 1) := by decide +kernel
theorem dL_law_1263 : decode cL_law 1263 = .ok (.iload 5, 2) := by decide +kernel
theorem dL_law_1265 : decode cL_law 1265 = .ok (.iconst 1, 1) := by decide +kernel
theorem dL_law_1266 : decode cL_law 1266 = .ok (.iadd, 1) := by decide +kernel
theorem dL_law_1267 : decode cL_law 1267 = .ok (.iaload, 1) := by decide +kernel
theorem dL_law_1268 : decode cL_law 1268 = .ok (.aload_n 0, 1) := by decide +kernel
theorem dL_law_1269 : decode cL_law 1269 = .ok (.iload 5, 2) := by decide +kernel
theorem dL_law_1271 : decode cL_law 1271 = .ok (.iconst 2, 1) := by decide +kernel
theorem dL_law_1272 : decode cL_law 1272 = .ok (.iadd, 1) := by decide +kernel
theorem dL_law_1273 : decode cL_law 1273 = .ok (.iaload, 1) := by decide +kernel
theorem dL_law_1274 : decode cL_law 1274 = .ok (.invokevirtual 161, 3) := by decide +kernel
theorem dL_law_1277 : decode cL_law 1277 = .ok (.fstore 7, 2) := by decide +kernel
theorem dL_law_1279 : decode cL_law 1279 = .ok (.aload_n 2, 1) := by decide +kernel
theorem dL_law_1280 : decode cL_law 1280 = .ok (.invokevirtual 94, 3) := by decide +kernel
theorem dL_law_1283 : decode cL_law 1283 = .ok (.iload 6, 2) := by decide +kernel
theorem dL_law_1285 : decode cL_law 1285 = .ok (.if_icmp .eq 5, 3) := by decide +kernel
theorem dL_law_1288 : decode cL_law 1288 = .ok (.iconst 0, 1) := by decide +kernel
theorem dL_law_1289 : decode cL_law 1289 = .ok (.ireturn, 1) := by decide +kernel
theorem dL_law_1290 : decode cL_law 1290 = .ok (.iload 6, 2) := by decide +kernel
theorem dL_law_1292 : decode cL_law 1292 = .ok (.ifCond .ne 36, 3) := by decide +kernel
theorem dL_law_1295 : decode cL_law 1295 = .ok (.aload 4, 2) := by decide +kernel
theorem dL_law_1297 : decode cL_law 1297 = .ok (.iconst 0, 1) := by decide +kernel
theorem dL_law_1298 : decode cL_law 1298 = .ok (.daload, 1) := by decide +kernel
theorem dL_law_1299 : decode cL_law 1299 = .ok (.fload 7, 2) := by decide +kernel
theorem dL_law_1301 : decode cL_law 1301 = .ok (.f2d, 1) := by decide +kernel
theorem dL_law_1302 : decode cL_law 1302 = .ok (.dcmp .l, 1) := by decide +kernel
theorem dL_law_1303 : decode cL_law 1303 = .ok (.ifCond .eq 25, 3) := by decide +kernel
theorem dL_law_1306 : decode cL_law 1306 = .ok (.aload 4, 2) := by decide +kernel
theorem dL_law_1308 : decode cL_law 1308 = .ok (.iconst 0, 1) := by decide +kernel
theorem dL_law_1309 : decode cL_law 1309 = .ok (.daload, 1) := by decide +kernel
theorem dL_law_1310 : decode cL_law 1310 = .ok (.aload 4, 2) := by decide +kernel
theorem dL_law_1312 : decode cL_law 1312 = .ok (.iconst 0, 1) := by decide +kernel
theorem dL_law_1313 : decode cL_law 1313 = .ok (.daload, 1) := by decide +kernel
theorem dL_law_1314 : decode cL_law 1314 = .ok (.dcmp .l, 1) := by decide +kernel
theorem dL_law_1315 : decode cL_law 1315 = .ok (.ifCond .eq 11, 3) := by decide +kernel
theorem dL_law_1318 : decode cL_law 1318 = .ok (.fload 7, 2) := by decide +kernel
theorem dL_law_1320 : decode cL_law 1320 = .ok (.fload 7, 2) := by decide +kernel
theorem dL_law_1322 : decode cL_law 1322 = .ok (.fcmp .l, 1) := by decide +kernel
theorem dL_law_1323 : decode cL_law 1323 = .ok (.ifCond .ne 5, 3) := by decide +kernel
theorem dL_law_1326 : decode cL_law 1326 = .ok (.iconst 0, 1) := by decide +kernel
theorem dL_law_1327 : decode cL_law 1327 = .ok (.ireturn, 1) := by decide +kernel
theorem dL_law_1328 : decode cL_law 1328 = .ok (.goto 3, 3) := by decide +kernel
theorem dL_law_1331 : decode cL_law 1331 = .ok (.iinc 5 5, 3) := by decide +kernel
theorem dL_law_1334 : decode cL_law 1334 = .ok (.goto (-1306), 3) := by decide +kernel
theorem dL_law_1337 : decode cL_law 1337 = .ok (.iconst 1, 1) := by decide +kernel
theorem dL_law_1338 : decode cL_law 1338 = .ok (.ireturn, 1) := by decide +kernel
end
section
/-! The memory of a walk: which addresses are ours, the kind of each (0 to 6 an object of that class of vwCl, 7 int[], 8 boolean[], 9 Variant[], 10 long[], 11 double[]),
the lengths, what int and reference places hold (fields by their number, arrays by their index), longs, doubles, and the next address (0: not known). -/
abbrev Mem : Type := List Nat × (Nat → Nat) × (Nat → Nat) × (Nat → Nat → Int32) × (Nat → Nat → Option Nat) × (Nat → Nat → Int64) × (Nat → Nat → UInt64) × Nat
/-- what is fixed over a run: class numbers and slots, the array classes by kind, the address of LETTERS, the script's address, length and ints -/
abbrev GG : Type := va_G × (Nat → ClassId) × Nat × Nat × Nat × (Nat → Int32)
def mL (S : Mem) : List Nat := S.1
def mK (S : Mem) : Nat → Nat := S.2.1
def mN (S : Mem) : Nat → Nat := S.2.2.1
def mI (S : Mem) : Nat → Nat → Int32 := S.2.2.2.1
def mR (S : Mem) : Nat → Nat → Option Nat := S.2.2.2.2.1
def mJ (S : Mem) : Nat → Nat → Int64 := S.2.2.2.2.2.1
def mD (S : Mem) : Nat → Nat → UInt64 := S.2.2.2.2.2.2.1
def mX (S : Mem) : Nat := S.2.2.2.2.2.2.2
def up2 {α : Type} (f : Nat → Nat → α) (a k : Nat) (v : α) : Nat → Nat → α := fun b j => if b = a ∧ j = k then v else f b j
def sI (S : Mem) (a k : Nat) (v : Int32) : Mem := (mL S, mK S, mN S, up2 (mI S) a k v, mR S, mJ S, mD S, mX S)
def sR (S : Mem) (a k : Nat) (v : Option Nat) : Mem := (mL S, mK S, mN S, mI S, up2 (mR S) a k v, mJ S, mD S, mX S)
def sJ (S : Mem) (a k : Nat) (v : Int64) : Mem := (mL S, mK S, mN S, mI S, mR S, up2 (mJ S) a k v, mD S, mX S)
def sD (S : Mem) (a k : Nat) (v : UInt64) : Mem := (mL S, mK S, mN S, mI S, mR S, mJ S, up2 (mD S) a k v, mX S)
/-- a run of int places laid anew -/
def sF (S : Mem) (a : Nat) (f : Nat → Int32) : Mem := (mL S, mK S, mN S, va_up (mI S) a f, mR S, mJ S, mD S, mX S)
/-- the next address is forgotten -/
def sX (S : Mem) : Mem := (mL S, mK S, mN S, mI S, mR S, mJ S, mD S, 0)
/-- a new thing of kind c, of n places, at the next address -/
def nw (S : Mem) (c n : Nat) : Mem := (mL S ++ [mX S], va_up (mK S) (mX S) c, va_up (mN S) (mX S) n, va_up (mI S) (mX S) (fun _ => 0), va_up (mR S) (mX S) (fun _ => none), va_up (mJ S) (mX S) (fun _ => 0), va_up (mD S) (mX S) (fun _ => 0), mX S + 1)
/-- which fields of class c hold references -/
def rfT (c k : Nat) : Bool := ((([[true, false, false], [true, true, true, true], [true, false], [true, false], [false, false, false, true, true, true, true, true, true], [true, true, true, false, true, true, true, true], [false, true, false, false, false, true, true, false, true, false, true]] : List (List Bool)).getD c []).getD k false)
/-- how many fields class c has -/
def nfT (c : Nat) : Nat := ([3, 4, 2, 2, 9, 8, 11] : List Nat).getD c 0
def fvM (S : Mem) (a c k : Nat) : Value := if rfT c k = true then va_rf (mR S a k) else .int (mI S a k)
def fsM (S : Mem) (a c : Nat) : List Value := (List.range (nfT c)).map (fvM S a c)
def mCell (g : GG) (S : Mem) (a : Nat) : va_E :=
  if mK S a < 7 then .inr (mK S a, fsM S a (mK S a))
  else if mK S a = 7 then .inl (g.2.1 7, mN S a, .inl (mI S a))
  else if mK S a = 8 then .inl (g.2.1 8, mN S a, .inl (mI S a))
  else if mK S a = 9 then .inl (g.2.1 9, mN S a, .inr (.inr (.inr (.inr (mR S a)))))
  else if mK S a = 10 then .inl (g.2.1 10, mN S a, .inr (.inl (mJ S a)))
  else .inl (g.2.1 11, mN S a, .inr (.inr (.inr (.inl (mD S a)))))
def mW (g : GG) (S : Mem) : va_W := va_pl (mL S) (mCell g S)
def tysG (g : GG) : List (ClassId × FieldType) := [(g.2.1 7, .int), (g.2.1 8, .boolean), (g.2.1 9, .object RX4), (g.2.1 10, .long), (g.2.1 11, .double)]
/-- the thing at a is ours, and of kind c -/
def ok (S : Mem) (a c : Nat) : Prop := a ∈ mL S ∧ mK S a = c
/-- the next address: not known (0), or what the method has made (k cells since s) behind what was there -/
def xk (f : Bool) (s : State) (k : Nat) (S : Mem) : Prop := (f = false → mX S = 0) ∧ (f = true → mX S = s.heap.size + k ∧ (k = 0 ∨ mX S - 1 ∈ mL S))
/-- the world in the heap -/
def okW (g : GG) (A : Nat → Prop) (S : Mem) (H : Heap) (s : State) (k : Nat) (f : Bool) : Prop := va_P g.1 vwCl (mW g S) H ∧ va_D A (mW g S) ∧ xk f s k S

theorem mW_get (g : GG) {S : Mem} {a : Nat} (h : a ∈ mL S) : ∃ k : Nat, (mW g S)[k]? = some (a, mCell g S a) := by
  obtain ⟨k, hk⟩ := va_pl_get (X := []) (f := mCell g S) h
  exact ⟨k, hk⟩
theorem mW_set {g : GG} {A : Nat → Prop} {S S' : Mem} {a k : Nat} {e : va_E} (hD : va_D A (mW g S)) (h : a ∈ mL S) (hk : (mW g S)[k]? = some (a, mCell g S a)) (hL : mL S' = mL S) (hc : ∀ b, va_up (mCell g S) a e b = mCell g S' b) : (mW g S).set k (a, e) = mW g S' := by
  have h1 := va_pl_set (X := []) (f := mCell g S) (e := e) hD h hk
  unfold mW at h1 ⊢
  rw [List.nil_append, List.nil_append] at h1
  rw [h1, hL]
  exact va_pl_congr hc
theorem mCell_o {g : GG} {S : Mem} {a c : Nat} (h : mK S a = c) (hc : c < 7) : mCell g S a = .inr (c, fsM S a c) := by
  unfold mCell
  rw [if_pos (by rw [h]; exact hc), h]
theorem mCell_7 {g : GG} {S : Mem} {a : Nat} (h : mK S a = 7) : mCell g S a = .inl (g.2.1 7, mN S a, .inl (mI S a)) := by simp [mCell, h]
theorem mCell_8 {g : GG} {S : Mem} {a : Nat} (h : mK S a = 8) : mCell g S a = .inl (g.2.1 8, mN S a, .inl (mI S a)) := by simp [mCell, h]
theorem mCell_9 {g : GG} {S : Mem} {a : Nat} (h : mK S a = 9) : mCell g S a = .inl (g.2.1 9, mN S a, .inr (.inr (.inr (.inr (mR S a))))) := by simp [mCell, h]
theorem mCell_10 {g : GG} {S : Mem} {a : Nat} (h : mK S a = 10) : mCell g S a = .inl (g.2.1 10, mN S a, .inr (.inl (mJ S a))) := by simp [mCell, h]
theorem mCell_11 {g : GG} {S : Mem} {a : Nat} (h : mK S a = 11) : mCell g S a = .inl (g.2.1 11, mN S a, .inr (.inr (.inr (.inl (mD S a))))) := by simp [mCell, h]
theorem fsM_get {S : Mem} {a c k : Nat} (h : k < nfT c) : (fsM S a c)[k]? = some (fvM S a c k) := by
  simp [fsM, h]
theorem fsM_len (S : Mem) (a c : Nat) : (fsM S a c).length = nfT c := by simp [fsM]
theorem fsM_set {S S' : Mem} {a c k : Nat} {v : Value} (h0 : fvM S' a c k = v) (h1 : ∀ j, j ≠ k → fvM S' a c j = fvM S a c j) : (fsM S a c).set k v = fsM S' a c := by
  apply List.ext_getElem?
  intro j
  by_cases hj : j = k
  · subst hj
    by_cases hl : j < nfT c
    · rw [List.getElem?_set_self (by rw [fsM_len]; exact hl), fsM_get hl, h0]
    · rw [List.getElem?_eq_none (by rw [List.length_set, fsM_len]; omega), List.getElem?_eq_none (by rw [fsM_len]; omega)]
  · rw [List.getElem?_set_ne (Ne.symm hj)]
    by_cases hl : j < nfT c
    · rw [fsM_get hl, fsM_get hl, h1 j hj]
    · rw [List.getElem?_eq_none (by rw [fsM_len]; omega), List.getElem?_eq_none (by rw [fsM_len]; omega)]
/-- cells elsewhere -/
theorem mCell_eq {g : GG} {S S' : Mem} {b : Nat} (hK : mK S' b = mK S b) (hN : mN S' b = mN S b) (hI : mI S' b = mI S b) (hR : mR S' b = mR S b) (hJ : mJ S' b = mJ S b) (hD : mD S' b = mD S b) : mCell g S' b = mCell g S b := by
  have hf : ∀ c, fsM S' b c = fsM S b c := by
    intro c
    unfold fsM
    apply List.map_congr_left
    intro k _
    simp only [fvM, hI, hR]
  simp only [mCell, hK, hN, hI, hR, hJ, hD, hf]
theorem up2_self {α : Type} (f : Nat → Nat → α) (a k : Nat) (v : α) : up2 f a k v a k = v := by simp [up2]
theorem up2_row {α : Type} (f : Nat → Nat → α) {a b k : Nat} (v : α) (h : b ≠ a) : up2 f a k v b = f b := by
  funext j
  simp [up2, h]
theorem up2_at {α : Type} (f : Nat → Nat → α) (a k : Nat) (v : α) : up2 f a k v a = va_up (f a) k v := by
  funext j
  by_cases h : j = k <;> simp [up2, va_up, h]
theorem up2_ne {α : Type} (f : Nat → Nat → α) {a b k j : Nat} (v : α) (h : ¬ (b = a ∧ j = k)) : up2 f a k v b j = f b j := by simp [up2, h]
theorem upd_up (f : Nat → Int32) (k : Nat) (x : Int32) : upd f k x = va_up f k x := rfl
end
section
/-! The judgement of a walk: from pc, with these locals, this operand stack, this memory, the machine comes to an end of which Q holds. -/
/-- a method: name, bytes, locals, answer, room (its cells and slots are what it may make), the rows of its exception table -/
abbrev MU : Type := MethodName × ByteArray × Nat × Option FieldType × Room × List (Nat × Nat × Nat × Nat) × Bool
abbrev uY (u : MU) : MethodName := u.1
abbrev uC (u : MU) : ByteArray := u.2.1
abbrev uN (u : MU) : Nat := u.2.2.1
abbrev uT (u : MU) : Option FieldType := u.2.2.2.1
abbrev uR (u : MU) : Room := u.2.2.2.2.1
abbrev uH (u : MU) : List (Nat × Nat × Nat × Nat) := u.2.2.2.2.2.1
/-- whether it makes things of ours (a constructor), so that the next address is known -/
abbrev uF (u : MU) : Bool := u.2.2.2.2.2.2
/-- words that the tables alone decide and that stay, beside the good ones: links to private members of a nest mate, casts, declarations -/
def nestWord : Cond → Bool
  | .fieldLinkNest .. => true
  | .methodLinkNest .. => true
  | .castable .. => true
  | .declares _ => true
  | _ => false
theorem tab_at {w : Cond} (hc : w.onTables = true) {u U : State} (h : w.before #[] (u.setVm U.vm) = true) (a : Array Value) : w.before a U = true := by
  have e := Cond.onTables_vm (A := #[]) (A' := a) (U := u) (U' := U) U.vm w hc
  have hU : U.setVm U.vm = U := rfl
  rw [hU] at e
  rw [← e]
  exact h
def gw (w : Cond) : Bool := goodWord w || nestWord w
theorem gw_warm {w : Cond} {s U : State} (h : gw w = true) (hW : s.WarmedH U.vm) (hs : ∀ a, w.before a s = true) : ∀ a, w.before a U = true := by
  intro a
  rcases Bool.or_eq_true_iff.mp h with h1 | h1
  · exact word_at hW (good_of_word h1) (hs a)
  · cases w <;> first
      | (simp [nestWord] at h1; done)
      | exact va_Nw.use rfl (va_Nw.warmM hW (va_Nw.of (A := #[]) rfl (hs #[])))
      | exact va_Nw.use rfl (va_Nw.warmF hW (va_Nw.of (A := #[]) rfl (hs #[])))
      | exact tab_at (u := s) rfl (by rw [Cond.castable_setVm hW.alike]; exact hs #[]) a
      | exact tab_at (u := s) rfl (by rw [Cond.declares_setVm hW.alike]; exact hs #[]) a
/-- LETTERS, as its class makes them -/
def letT (j : Nat) : Int32 := ([65, 67, 71, 84] : List Int32).getD j 0
/-- the String constants of VariantKit: pool index and text -/
def strT : List (Nat × String) := [(56, "n is not 1 .. 16"), (67, "there are records or a draft"), (73, "there would be more than 160 bases"), (79, "length is not 1 .. 8"), (85, "the reference does not have these places"), (101, "n is not 1 .. 8"), (103, "there is no draft"), (108, "the draft has four alleles"), (117, "the draft has that allele"), (123, "there is no draft or no such allele"), (128, "the depth or the quality is out of its bounds"), (140, "there is no draft or no such sample"), (145, "no such allele"), (158, "no such pair"), (160, "value is not 0 .. 999"), (165, "the draft has one allele"), (171, "there are 24 records"), (271, "there is no such record"), (196, "the record has two alleles"), (198, "there would be more than 24 records"), (210, "there is no next record with this place"), (217, "more than four alleles, or one of more than 8 bases"), (230, "no such byte"), (236, "there would be more than 120 bytes"), (244, "the bytes are no record on this reference"), (252, "no such what"), (254, "no such base"), (273, "begin and end are not in order in 1 .. 255"), (269, "there are no such records")]
/-- exceptions that are no others -/
def ncT : List (String × String) := [("java/lang/IllegalStateException", "java/lang/IllegalArgumentException"), ("java/lang/IndexOutOfBoundsException", "java/lang/IllegalArgumentException"), ("java/util/NoSuchElementException", "java/lang/IllegalArgumentException"), ("java/lang/IllegalStateException", "java/util/NoSuchElementException")]
/-- what holds all along: the tables' words, the constants, what nobody writes -/
def Gd (g : GG) (A : Nat → Prop) (U : State) (H : Heap) : Prop :=
  (∀ w ∈ lw_tbl, gw w = true → ∀ a, w.before a U = true) ∧
  (∀ q ∈ strT, ∃ sa, vk_R RX5 q.1 q.2 sa U) ∧
  va_K g.1 vwCl (tysG g) U ∧
  (vx_Zq Bundle.tN "UNASSIGNED_STACK" Bundle.steD A U H ∧ vx_Zq Bundle.tN "SUPPRESSED_SENTINEL" Bundle.listD A U H) ∧
  (va_Z RX5 "LETTERS" "[I" (.ref g.2.2.1) A U H ∧ va_T .int g.2.2.1 4 (fun j => .int (letT j)) A U H) ∧
  va_T .int g.2.2.2.1 g.2.2.2.2.1 (fun j => .int (g.2.2.2.2.2 j)) A U H ∧
  va_AO RX4 U ∧ (∀ q ∈ ncT, va_Nc q.1 q.2 U)
theorem Gd_warm {g : GG} {A : Nat → Prop} {s U : State} {H : Heap} (hW : s.WarmedH U.vm) (h : Gd g A s H) : Gd g A U H := by
  obtain ⟨h1, h2, h3, ⟨h4, h5⟩, ⟨h6, h7⟩, h8, h9, h10⟩ := h
  exact ⟨fun w hw hg => gw_warm hg hW (h1 w hw hg), fun q hq => by obtain ⟨sa, hs⟩ := h2 q hq; exact ⟨sa, vk_R.warm hW hs⟩, va_K.moved hW.alike h3,
    ⟨vx_Zq.moved hW.alike h4, vx_Zq.moved hW.alike h5⟩, ⟨va_Z.moved hW.alike h6, va_T.moved hW.alike h7⟩, va_T.moved hW.alike h8, va_AO.moved hW.alike h9, fun q hq => va_Nc.moved hW.alike (h10 q hq)⟩
theorem Gd_kept {g : GG} {A : Nat → Prop} {U : State} {H H1 : Heap} (h : Gd g A U H) (hq : ∀ a : Nat, a < H.size → ¬ A a → H1[a]? = H[a]?) : Gd g A U H1 := by
  obtain ⟨h1, h2, h3, ⟨h4, h5⟩, ⟨h6, h7⟩, h8, h9, h10⟩ := h
  exact ⟨h1, h2, h3, ⟨h4.kept hq, h5.kept hq⟩, ⟨h6.kept hq, h7.kept hq⟩, h8.kept hq, h9, h10⟩
theorem Gd_narrow {g : GG} {A B : Nat → Prop} {U : State} {H : Heap} (h : Gd g A U H) (hAB : ∀ q, B q → A q) : Gd g B U H := by
  obtain ⟨h1, h2, h3, ⟨h4, h5⟩, ⟨h6, h7⟩, h8, h9, h10⟩ := h
  exact ⟨h1, h2, h3, ⟨h4.narrow hAB, h5.narrow hAB⟩, ⟨h6.narrow hAB, h7.narrow hAB⟩, h8.narrow hAB, h9, h10⟩
/-- what a method's body stands on -/
def Cx (g : GG) (l : Launch) (u : MU) (p : Program) (s : State) (m : MethodId) (args : Array Value) (meth : Method) (c : Code) (A : Nat → Prop) : Prop :=
  p.tables.exec = Jvm.exec ∧ c.code = uC u ∧ meth.sig.returnType = uT u ∧ c.maxLocals = uN u ∧ s.vm.findClass (uY u).cls = some m.cls ∧ meth.locks = false ∧ meth.name = (uY u).name ∧ l.stackTraces = false ∧ Gd g A s s.heap ∧ (∀ q, s.heap.size ≤ q → A q) ∧ c.exceptionTable.toList = tableOf (uH u)
abbrev FQ : Type := Array Value → List Frame → State → (Nat → Prop) → State → Prop
def Run (g : GG) (l : Launch) (u : MU) (Q : FQ) (pc : Nat) (lv : List (Nat × Value)) (st : List Value) (k n : Nat) (S : Mem) : Prop :=
  ∀ (p : Program) (e : Env) (s : State) (m : MethodId) (args : Array Value) (below : List Frame) (meth : Method) (c : Code) (A : Nat → Prop) (H : Heap) (locs : List Loc) (ls : Array Slot),
    Cx g l u p s m args meth c A → okW g A S H s k (uF u) → va_S A s.heap H locs → lv_has ls (uN u) lv → W p l e (uR u) s m args below meth c H locs k n (Q args below s A) (F0 m pc ls st)
/-- a method's end: an answer, or the name of what is thrown -/
def rQ (g : GG) (A : Nat → Prop) (r : Option Value ⊕ String) (S' : Mem) (mc : Nat) (f : Bool) : Array Value → State → Outcome → State → Prop := fun _ st oc t =>
  match r with
  | .inl v => oc = .returned v ∧ okW g A S' t.heap st mc f ∧ va_F A st t
  | .inr _ => False
def rX (g : GG) (A : Nat → Prop) (r : Option Value ⊕ String) (S' : Mem) (mc : Nat) (f : Bool) : String → State → State → Prop := fun E st t =>
  match r with
  | .inl _ => False
  | .inr E' => E = E' ∧ okW g A S' t.heap st mc f ∧ va_F A st t
def fin (g : GG) (u : MU) (r : Option Value ⊕ String) (S' : Mem) : FQ := fun args below s A => vx_MQ below (rQ g A r S' (uR u).cells (uF u)) (rX g A r S' (uR u).cells (uF u)) args s (uR u).cells (uR u).slots A
theorem Cx_w {g : GG} {l : Launch} {u : MU} {p : Program} {s : State} {m : MethodId} {args : Array Value} {meth : Method} {c : Code} {A : Nat → Prop} (C : Cx g l u p s m args meth c A) {w : Cond} (hm : w ∈ lw_tbl) (hg : gw w = true) : w.before args s = true := C.2.2.2.2.2.2.2.2.1.1 w hm hg args
theorem r_widen {g : GG} {l : Launch} {u : MU} {Q : FQ} {pc : Nat} {lv : List (Nat × Value)} {st : List Value} {k n k' n' : Nat} {S : Mem} (hx : uF u = false) (h1 : k ≤ k') (h2 : n ≤ n') (h : Run g l u Q pc lv st k' n' S) : Run g l u Q pc lv st k n S :=
  fun p e s m args below meth c A H locs ls C hW hS hl => W.widen h1 h2 (h p e s m args below meth c A H locs ls C ⟨hW.1, hW.2.1, hW.2.2.1, fun q => absurd (hx.symm.trans q) (by decide)⟩ hS hl)
/-- fewer locals -/
theorem r_sub {g : GG} {l : Launch} {u : MU} {Q : FQ} {pc : Nat} {lv lv' : List (Nat × Value)} {st : List Value} {k n : Nat} {S : Mem} (ks : List Nat) (hl' : lv_pick lv ks = lv') (h : Run g l u Q pc lv' st k n S) : Run g l u Q pc lv st k n S :=
  fun p e s m args below meth c A H locs ls C hW hS hl => h p e s m args below meth c A H locs ls C hW hS (lv_sub hl ks hl')
theorem r_iconst {g : GG} {l : Launch} {u : MU} {Q : FQ} {pc : Nat} {lv : List (Nat × Value)} {st : List Value} {k n : Nat} {S : Mem} {i : Int} {v : Int32} (hd : decode (uC u) pc = .ok (.iconst i, 1)) (hv : Int32.ofInt i = v) (h : Run g l u Q (pc + 1) lv (.int v :: st) k n S) : Run g l u Q pc lv (st) k n S :=
  fun p e s m args below meth c A H locs ls C hW hS hl => lv_iconst C.1 C.2.1 hd hv (h p e s m args below meth c A H locs ls C hW hS hl)
theorem r_bipush {g : GG} {l : Launch} {u : MU} {Q : FQ} {pc : Nat} {lv : List (Nat × Value)} {st : List Value} {k n : Nat} {S : Mem} {i : Int} {v : Int32} (hd : decode (uC u) pc = .ok (.bipush i, 2)) (hv : (Int8.ofInt i).toInt32 = v) (h : Run g l u Q (pc + 2) lv (.int v :: st) k n S) : Run g l u Q pc lv (st) k n S :=
  fun p e s m args below meth c A H locs ls C hW hS hl => lv_bipush C.1 C.2.1 hd hv (h p e s m args below meth c A H locs ls C hW hS hl)
theorem r_sipush {g : GG} {l : Launch} {u : MU} {Q : FQ} {pc : Nat} {lv : List (Nat × Value)} {st : List Value} {k n : Nat} {S : Mem} {i : Int} {v : Int32} (hd : decode (uC u) pc = .ok (.sipush i, 3)) (hv : (Int16.ofInt i).toInt32 = v) (h : Run g l u Q (pc + 3) lv (.int v :: st) k n S) : Run g l u Q pc lv (st) k n S :=
  fun p e s m args below meth c A H locs ls C hW hS hl => lv_sipush C.1 C.2.1 hd hv (h p e s m args below meth c A H locs ls C hW hS hl)
theorem r_lconst {g : GG} {l : Launch} {u : MU} {Q : FQ} {pc : Nat} {lv : List (Nat × Value)} {st : List Value} {k n : Nat} {S : Mem} {i : Fin 2} {v : Int64} (hd : decode (uC u) pc = .ok (.lconst i, 1)) (hv : Int64.ofNat (i : Nat) = v) (h : Run g l u Q (pc + 1) lv (.long v :: st) k n S) : Run g l u Q pc lv (st) k n S :=
  fun p e s m args below meth c A H locs ls C hW hS hl => lv_lconst C.1 C.2.1 hd hv (h p e s m args below meth c A H locs ls C hW hS hl)
theorem r_iadd {g : GG} {l : Launch} {u : MU} {Q : FQ} {pc : Nat} {lv : List (Nat × Value)} {st : List Value} {k n : Nat} {S : Mem} {x y : Int32} (hd : decode (uC u) pc = .ok (.iadd, 1)) (h : Run g l u Q (pc + 1) lv (.int (x + y) :: st) k n S) : Run g l u Q pc lv (.int y :: .int x :: st) k n S :=
  fun p e s m args below meth c A H locs ls C hW hS hl => lv_iadd C.1 C.2.1 hd (h p e s m args below meth c A H locs ls C hW hS hl)
theorem r_isub {g : GG} {l : Launch} {u : MU} {Q : FQ} {pc : Nat} {lv : List (Nat × Value)} {st : List Value} {k n : Nat} {S : Mem} {x y : Int32} (hd : decode (uC u) pc = .ok (.isub, 1)) (h : Run g l u Q (pc + 1) lv (.int (x - y) :: st) k n S) : Run g l u Q pc lv (.int y :: .int x :: st) k n S :=
  fun p e s m args below meth c A H locs ls C hW hS hl => lv_isub C.1 C.2.1 hd (h p e s m args below meth c A H locs ls C hW hS hl)
theorem r_imul {g : GG} {l : Launch} {u : MU} {Q : FQ} {pc : Nat} {lv : List (Nat × Value)} {st : List Value} {k n : Nat} {S : Mem} {x y : Int32} (hd : decode (uC u) pc = .ok (.imul, 1)) (h : Run g l u Q (pc + 1) lv (.int (x * y) :: st) k n S) : Run g l u Q pc lv (.int y :: .int x :: st) k n S :=
  fun p e s m args below meth c A H locs ls C hW hS hl => lv_imul C.1 C.2.1 hd (h p e s m args below meth c A H locs ls C hW hS hl)
theorem r_iand {g : GG} {l : Launch} {u : MU} {Q : FQ} {pc : Nat} {lv : List (Nat × Value)} {st : List Value} {k n : Nat} {S : Mem} {x y : Int32} (hd : decode (uC u) pc = .ok (.iand, 1)) (h : Run g l u Q (pc + 1) lv (.int (x &&& y) :: st) k n S) : Run g l u Q pc lv (.int y :: .int x :: st) k n S :=
  fun p e s m args below meth c A H locs ls C hW hS hl => lv_iand C.1 C.2.1 hd (h p e s m args below meth c A H locs ls C hW hS hl)
theorem r_ior {g : GG} {l : Launch} {u : MU} {Q : FQ} {pc : Nat} {lv : List (Nat × Value)} {st : List Value} {k n : Nat} {S : Mem} {x y : Int32} (hd : decode (uC u) pc = .ok (.ior, 1)) (h : Run g l u Q (pc + 1) lv (.int (x ||| y) :: st) k n S) : Run g l u Q pc lv (.int y :: .int x :: st) k n S :=
  fun p e s m args below meth c A H locs ls C hW hS hl => lv_ior C.1 C.2.1 hd (h p e s m args below meth c A H locs ls C hW hS hl)
theorem r_ishl {g : GG} {l : Launch} {u : MU} {Q : FQ} {pc : Nat} {lv : List (Nat × Value)} {st : List Value} {k n : Nat} {S : Mem} {x y : Int32} (hd : decode (uC u) pc = .ok (.ishl, 1)) (h : Run g l u Q (pc + 1) lv (.int (x <<< (y &&& 31)) :: st) k n S) : Run g l u Q pc lv (.int y :: .int x :: st) k n S :=
  fun p e s m args below meth c A H locs ls C hW hS hl => lv_ishl C.1 C.2.1 hd (h p e s m args below meth c A H locs ls C hW hS hl)
theorem r_ishr {g : GG} {l : Launch} {u : MU} {Q : FQ} {pc : Nat} {lv : List (Nat × Value)} {st : List Value} {k n : Nat} {S : Mem} {x y : Int32} (hd : decode (uC u) pc = .ok (.ishr, 1)) (h : Run g l u Q (pc + 1) lv (.int (x >>> (y &&& 31)) :: st) k n S) : Run g l u Q pc lv (.int y :: .int x :: st) k n S :=
  fun p e s m args below meth c A H locs ls C hW hS hl => lv_ishr C.1 C.2.1 hd (h p e s m args below meth c A H locs ls C hW hS hl)
theorem r_land {g : GG} {l : Launch} {u : MU} {Q : FQ} {pc : Nat} {lv : List (Nat × Value)} {st : List Value} {k n : Nat} {S : Mem} {x y : Int64} (hd : decode (uC u) pc = .ok (.land, 1)) (h : Run g l u Q (pc + 1) lv (.long (x &&& y) :: st) k n S) : Run g l u Q pc lv (.long y :: .long x :: st) k n S :=
  fun p e s m args below meth c A H locs ls C hW hS hl => lv_land C.1 C.2.1 hd (h p e s m args below meth c A H locs ls C hW hS hl)
theorem r_lor {g : GG} {l : Launch} {u : MU} {Q : FQ} {pc : Nat} {lv : List (Nat × Value)} {st : List Value} {k n : Nat} {S : Mem} {x y : Int64} (hd : decode (uC u) pc = .ok (.lor, 1)) (h : Run g l u Q (pc + 1) lv (.long (x ||| y) :: st) k n S) : Run g l u Q pc lv (.long y :: .long x :: st) k n S :=
  fun p e s m args below meth c A H locs ls C hW hS hl => lv_lor C.1 C.2.1 hd (h p e s m args below meth c A H locs ls C hW hS hl)
theorem r_lsub {g : GG} {l : Launch} {u : MU} {Q : FQ} {pc : Nat} {lv : List (Nat × Value)} {st : List Value} {k n : Nat} {S : Mem} {x y : Int64} (hd : decode (uC u) pc = .ok (.lsub, 1)) (h : Run g l u Q (pc + 1) lv (.long (x - y) :: st) k n S) : Run g l u Q pc lv (.long y :: .long x :: st) k n S :=
  fun p e s m args below meth c A H locs ls C hW hS hl => lv_lsub C.1 C.2.1 hd (h p e s m args below meth c A H locs ls C hW hS hl)
theorem r_lshl {g : GG} {l : Launch} {u : MU} {Q : FQ} {pc : Nat} {lv : List (Nat × Value)} {st : List Value} {k n : Nat} {S : Mem} {x : Int64} {y : Int32} (hd : decode (uC u) pc = .ok (.lshl, 1)) (h : Run g l u Q (pc + 1) lv (.long (x <<< (y.toInt64 &&& 63)) :: st) k n S) : Run g l u Q pc lv (.int y :: .long x :: st) k n S :=
  fun p e s m args below meth c A H locs ls C hW hS hl => lv_lshl C.1 C.2.1 hd rfl (h p e s m args below meth c A H locs ls C hW hS hl)
theorem r_lshr {g : GG} {l : Launch} {u : MU} {Q : FQ} {pc : Nat} {lv : List (Nat × Value)} {st : List Value} {k n : Nat} {S : Mem} {x : Int64} {y : Int32} (hd : decode (uC u) pc = .ok (.lshr, 1)) (h : Run g l u Q (pc + 1) lv (.long (x >>> (y.toInt64 &&& 63)) :: st) k n S) : Run g l u Q pc lv (.int y :: .long x :: st) k n S :=
  fun p e s m args below meth c A H locs ls C hW hS hl => lv_lshr C.1 C.2.1 hd rfl (h p e s m args below meth c A H locs ls C hW hS hl)
theorem r_lushr {g : GG} {l : Launch} {u : MU} {Q : FQ} {pc : Nat} {lv : List (Nat × Value)} {st : List Value} {k n : Nat} {S : Mem} {x : Int64} {y : Int32} (hd : decode (uC u) pc = .ok (.lushr, 1)) (h : Run g l u Q (pc + 1) lv (.long ((x.toUInt64 >>> (y.toInt64.toUInt64 &&& Int64.toUInt64 63)).toInt64) :: st) k n S) : Run g l u Q pc lv (.int y :: .long x :: st) k n S :=
  fun p e s m args below meth c A H locs ls C hW hS hl => lv_lushr C.1 C.2.1 hd rfl (h p e s m args below meth c A H locs ls C hW hS hl)
theorem r_l2i {g : GG} {l : Launch} {u : MU} {Q : FQ} {pc : Nat} {lv : List (Nat × Value)} {st : List Value} {k n : Nat} {S : Mem} {x : Int64} (hd : decode (uC u) pc = .ok (.l2i, 1)) (h : Run g l u Q (pc + 1) lv (.int x.toInt32 :: st) k n S) : Run g l u Q pc lv (.long x :: st) k n S :=
  fun p e s m args below meth c A H locs ls C hW hS hl => lv_l2i C.1 C.2.1 hd rfl (h p e s m args below meth c A H locs ls C hW hS hl)
theorem r_i2l {g : GG} {l : Launch} {u : MU} {Q : FQ} {pc : Nat} {lv : List (Nat × Value)} {st : List Value} {k n : Nat} {S : Mem} {x : Int32} (hd : decode (uC u) pc = .ok (.i2l, 1)) (h : Run g l u Q (pc + 1) lv (.long x.toInt64 :: st) k n S) : Run g l u Q pc lv (.int x :: st) k n S :=
  fun p e s m args below meth c A H locs ls C hW hS hl => lv_i2l C.1 C.2.1 hd rfl (h p e s m args below meth c A H locs ls C hW hS hl)
theorem r_i2f {g : GG} {l : Launch} {u : MU} {Q : FQ} {pc : Nat} {lv : List (Nat × Value)} {st : List Value} {k n : Nat} {S : Mem} {x : Int32} (hd : decode (uC u) pc = .ok (.i2f, 1)) (h : Run g l u Q (pc + 1) lv (.float (FP.i2f x) :: st) k n S) : Run g l u Q pc lv (.int x :: st) k n S :=
  fun p e s m args below meth c A H locs ls C hW hS hl => lv_i2f C.1 C.2.1 hd (h p e s m args below meth c A H locs ls C hW hS hl)
theorem r_fadd {g : GG} {l : Launch} {u : MU} {Q : FQ} {pc : Nat} {lv : List (Nat × Value)} {st : List Value} {k n : Nat} {S : Mem} {x y : UInt32} (hd : decode (uC u) pc = .ok (.fadd, 1)) (hne : vf_n32 (FP.fadd x y)) (h : Run g l u Q (pc + 1) lv (.float (FP.fadd x y) :: st) k n S) : Run g l u Q pc lv (.float y :: .float x :: st) k n S :=
  fun p e s m args below meth c A H locs ls C hW hS hl => lv_fadd C.1 C.2.1 hd hne (h p e s m args below meth c A H locs ls C hW hS hl)
theorem r_fmul {g : GG} {l : Launch} {u : MU} {Q : FQ} {pc : Nat} {lv : List (Nat × Value)} {st : List Value} {k n : Nat} {S : Mem} {x y : UInt32} (hd : decode (uC u) pc = .ok (.fmul, 1)) (hne : vf_n32 (FP.fmul x y)) (h : Run g l u Q (pc + 1) lv (.float (FP.fmul x y) :: st) k n S) : Run g l u Q pc lv (.float y :: .float x :: st) k n S :=
  fun p e s m args below meth c A H locs ls C hW hS hl => lv_fmul C.1 C.2.1 hd hne (h p e s m args below meth c A H locs ls C hW hS hl)
theorem r_fdiv {g : GG} {l : Launch} {u : MU} {Q : FQ} {pc : Nat} {lv : List (Nat × Value)} {st : List Value} {k n : Nat} {S : Mem} {x y : UInt32} (hd : decode (uC u) pc = .ok (.fdiv, 1)) (hne : vf_n32 (FP.fdiv x y)) (h : Run g l u Q (pc + 1) lv (.float (FP.fdiv x y) :: st) k n S) : Run g l u Q pc lv (.float y :: .float x :: st) k n S :=
  fun p e s m args below meth c A H locs ls C hW hS hl => lv_fdiv C.1 C.2.1 hd hne (h p e s m args below meth c A H locs ls C hW hS hl)
theorem r_f2d {g : GG} {l : Launch} {u : MU} {Q : FQ} {pc : Nat} {lv : List (Nat × Value)} {st : List Value} {k n : Nat} {S : Mem} {x : UInt32} (hd : decode (uC u) pc = .ok (.f2d, 1)) (hne : vf_n64 (FP.f2d x)) (h : Run g l u Q (pc + 1) lv (.double (FP.f2d x) :: st) k n S) : Run g l u Q pc lv (.float x :: st) k n S :=
  fun p e s m args below meth c A H locs ls C hW hS hl => lv_f2d C.1 C.2.1 hd hne (h p e s m args below meth c A H locs ls C hW hS hl)
theorem r_fcmp {g : GG} {l : Launch} {u : MU} {Q : FQ} {pc : Nat} {lv : List (Nat × Value)} {st : List Value} {k n : Nat} {S : Mem} {x y : UInt32} {op : CmpOp} (hd : decode (uC u) pc = .ok (.fcmp op, 1)) (h : Run g l u Q (pc + 1) lv (.int (Op.cmpValue (FP.fcmp x y) op) :: st) k n S) : Run g l u Q pc lv (.float y :: .float x :: st) k n S :=
  fun p e s m args below meth c A H locs ls C hW hS hl => lv_fcmp C.1 C.2.1 hd (h p e s m args below meth c A H locs ls C hW hS hl)
theorem r_dcmp {g : GG} {l : Launch} {u : MU} {Q : FQ} {pc : Nat} {lv : List (Nat × Value)} {st : List Value} {k n : Nat} {S : Mem} {x y : UInt64} {op : CmpOp} (hd : decode (uC u) pc = .ok (.dcmp op, 1)) (h : Run g l u Q (pc + 1) lv (.int (Op.cmpValue (FP.dcmp x y) op) :: st) k n S) : Run g l u Q pc lv (.double y :: .double x :: st) k n S :=
  fun p e s m args below meth c A H locs ls C hW hS hl => lv_dcmp C.1 C.2.1 hd (h p e s m args below meth c A H locs ls C hW hS hl)
theorem r_dup {g : GG} {l : Launch} {u : MU} {Q : FQ} {pc : Nat} {lv : List (Nat × Value)} {st : List Value} {k n : Nat} {S : Mem} {v : Value} (hd : decode (uC u) pc = .ok (.dup, 1)) (hv : v.category = 1) (h : Run g l u Q (pc + 1) lv (v :: v :: st) k n S) : Run g l u Q pc lv (v :: st) k n S :=
  fun p e s m args below meth c A H locs ls C hW hS hl => lv_dup C.1 C.2.1 hd hv (h p e s m args below meth c A H locs ls C hW hS hl)
theorem r_pop {g : GG} {l : Launch} {u : MU} {Q : FQ} {pc : Nat} {lv : List (Nat × Value)} {st : List Value} {k n : Nat} {S : Mem} {v : Value} (hd : decode (uC u) pc = .ok (.pop, 1)) (hv : v.category = 1) (h : Run g l u Q (pc + 1) lv (st) k n S) : Run g l u Q pc lv (v :: st) k n S :=
  fun p e s m args below meth c A H locs ls C hW hS hl => lv_pop C.1 C.2.1 hd hv (h p e s m args below meth c A H locs ls C hW hS hl)
theorem r_idiv {g : GG} {l : Launch} {u : MU} {Q : FQ} {pc : Nat} {lv : List (Nat × Value)} {st : List Value} {k n : Nat} {S : Mem} {x y : Int32} (hd : decode (uC u) pc = .ok (.idiv, 1)) (hne : ¬ y = 0) (h : Run g l u Q (pc + 1) lv (.int (x / y) :: st) k n S) : Run g l u Q pc lv (.int y :: .int x :: st) k n S :=
  fun p e s m args below meth c A H locs ls C hW hS hl => lv_idiv C.1 C.2.1 hd hne (h p e s m args below meth c A H locs ls C hW hS hl)
theorem r_irem {g : GG} {l : Launch} {u : MU} {Q : FQ} {pc : Nat} {lv : List (Nat × Value)} {st : List Value} {k n : Nat} {S : Mem} {x y : Int32} (hd : decode (uC u) pc = .ok (.irem, 1)) (hne : ¬ y = 0) (h : Run g l u Q (pc + 1) lv (.int (x - x / y * y) :: st) k n S) : Run g l u Q pc lv (.int y :: .int x :: st) k n S :=
  fun p e s m args below meth c A H locs ls C hW hS hl => lv_irem C.1 C.2.1 hd hne (h p e s m args below meth c A H locs ls C hW hS hl)
theorem r_iload_n {g : GG} {l : Launch} {u : MU} {Q : FQ} {pc : Nat} {lv : List (Nat × Value)} {st : List Value} {k n : Nat} {S : Mem} {z : Fin 4} {i : Nat} {x : Int32} (hd : decode (uC u) pc = .ok (.iload_n z, 1)) (hi : (z : Nat) = i) (j : Nat) (hj : lv[j]? = some (i, .int x)) (h : Run g l u Q (pc + 1) lv (.int x :: st) k n S) : Run g l u Q pc lv st k n S :=
  fun p e s m args below meth c A H locs ls C hW hS hl => lv_iload_n C.1 C.2.1 hd hi (lv_at hl j hj) (h p e s m args below meth c A H locs ls C hW hS hl)
theorem r_iload {g : GG} {l : Launch} {u : MU} {Q : FQ} {pc : Nat} {lv : List (Nat × Value)} {st : List Value} {k n : Nat} {S : Mem} {i : Nat} {x : Int32} (hd : decode (uC u) pc = .ok (.iload i, 2)) (j : Nat) (hj : lv[j]? = some (i, .int x)) (h : Run g l u Q (pc + 2) lv (.int x :: st) k n S) : Run g l u Q pc lv st k n S :=
  fun p e s m args below meth c A H locs ls C hW hS hl => lv_iload C.1 C.2.1 hd (lv_at hl j hj) (h p e s m args below meth c A H locs ls C hW hS hl)
theorem r_aload_n {g : GG} {l : Launch} {u : MU} {Q : FQ} {pc : Nat} {lv : List (Nat × Value)} {st : List Value} {k n : Nat} {S : Mem} {z : Fin 4} {i : Nat} {x : Nat} (hd : decode (uC u) pc = .ok (.aload_n z, 1)) (hi : (z : Nat) = i) (j : Nat) (hj : lv[j]? = some (i, .ref x)) (h : Run g l u Q (pc + 1) lv (.ref x :: st) k n S) : Run g l u Q pc lv st k n S :=
  fun p e s m args below meth c A H locs ls C hW hS hl => lv_aload_n C.1 C.2.1 hd hi (lv_at hl j hj) (h p e s m args below meth c A H locs ls C hW hS hl)
theorem r_aload {g : GG} {l : Launch} {u : MU} {Q : FQ} {pc : Nat} {lv : List (Nat × Value)} {st : List Value} {k n : Nat} {S : Mem} {i : Nat} {x : Nat} (hd : decode (uC u) pc = .ok (.aload i, 2)) (j : Nat) (hj : lv[j]? = some (i, .ref x)) (h : Run g l u Q (pc + 2) lv (.ref x :: st) k n S) : Run g l u Q pc lv st k n S :=
  fun p e s m args below meth c A H locs ls C hW hS hl => lv_aload C.1 C.2.1 hd (lv_at hl j hj) (h p e s m args below meth c A H locs ls C hW hS hl)
theorem r_lload_n {g : GG} {l : Launch} {u : MU} {Q : FQ} {pc : Nat} {lv : List (Nat × Value)} {st : List Value} {k n : Nat} {S : Mem} {z : Fin 4} {i : Nat} {x : Int64} (hd : decode (uC u) pc = .ok (.lload_n z, 1)) (hi : (z : Nat) = i) (j : Nat) (hj : lv[j]? = some (i, .long x)) (h : Run g l u Q (pc + 1) lv (.long x :: st) k n S) : Run g l u Q pc lv st k n S :=
  fun p e s m args below meth c A H locs ls C hW hS hl => lv_lload_n C.1 C.2.1 hd hi (lv_at hl j hj) (h p e s m args below meth c A H locs ls C hW hS hl)
theorem r_fload_n {g : GG} {l : Launch} {u : MU} {Q : FQ} {pc : Nat} {lv : List (Nat × Value)} {st : List Value} {k n : Nat} {S : Mem} {z : Fin 4} {i : Nat} {x : UInt32} (hd : decode (uC u) pc = .ok (.fload_n z, 1)) (hi : (z : Nat) = i) (j : Nat) (hj : lv[j]? = some (i, .float x)) (h : Run g l u Q (pc + 1) lv (.float x :: st) k n S) : Run g l u Q pc lv st k n S :=
  fun p e s m args below meth c A H locs ls C hW hS hl => lv_fload_n C.1 C.2.1 hd hi (lv_at hl j hj) (h p e s m args below meth c A H locs ls C hW hS hl)
theorem r_fload {g : GG} {l : Launch} {u : MU} {Q : FQ} {pc : Nat} {lv : List (Nat × Value)} {st : List Value} {k n : Nat} {S : Mem} {i : Nat} {x : UInt32} (hd : decode (uC u) pc = .ok (.fload i, 2)) (j : Nat) (hj : lv[j]? = some (i, .float x)) (h : Run g l u Q (pc + 2) lv (.float x :: st) k n S) : Run g l u Q pc lv st k n S :=
  fun p e s m args below meth c A H locs ls C hW hS hl => lv_fload C.1 C.2.1 hd (lv_at hl j hj) (h p e s m args below meth c A H locs ls C hW hS hl)
theorem r_istore_n {g : GG} {l : Launch} {u : MU} {Q : FQ} {pc : Nat} {lv : List (Nat × Value)} {st : List Value} {k n : Nat} {S : Mem} {z : Fin 4} {i : Nat} {x : Int32} {lv' : List (Nat × Value)} (hd : decode (uC u) pc = .ok (.istore_n z, 1)) (hi : (z : Nat) = i) (hn : i < uN u) (hl' : (i, Value.int x) :: lv.filter (fun q => !(q.1 == i) && !(q.1 + 1 == i && q.2.category == 2)) = lv') (h : Run g l u Q (pc + 1) lv' st k n S) : Run g l u Q pc lv (.int x :: st) k n S :=
  fun p e s m args below meth c A H locs ls C hW hS hl => lv_istore_n C.1 C.2.1 hd hi hl hn hl' (fun ls hl => h p e s m args below meth c A H locs ls C hW hS hl)
theorem r_istore {g : GG} {l : Launch} {u : MU} {Q : FQ} {pc : Nat} {lv : List (Nat × Value)} {st : List Value} {k n : Nat} {S : Mem} {i : Nat} {x : Int32} {lv' : List (Nat × Value)} (hd : decode (uC u) pc = .ok (.istore i, 2)) (hn : i < uN u) (hl' : (i, Value.int x) :: lv.filter (fun q => !(q.1 == i) && !(q.1 + 1 == i && q.2.category == 2)) = lv') (h : Run g l u Q (pc + 2) lv' st k n S) : Run g l u Q pc lv (.int x :: st) k n S :=
  fun p e s m args below meth c A H locs ls C hW hS hl => lv_istore C.1 C.2.1 hd hl hn hl' (fun ls hl => h p e s m args below meth c A H locs ls C hW hS hl)
theorem r_astore_n {g : GG} {l : Launch} {u : MU} {Q : FQ} {pc : Nat} {lv : List (Nat × Value)} {st : List Value} {k n : Nat} {S : Mem} {z : Fin 4} {i : Nat} {x : Nat} {lv' : List (Nat × Value)} (hd : decode (uC u) pc = .ok (.astore_n z, 1)) (hi : (z : Nat) = i) (hn : i < uN u) (hl' : (i, Value.ref x) :: lv.filter (fun q => !(q.1 == i) && !(q.1 + 1 == i && q.2.category == 2)) = lv') (h : Run g l u Q (pc + 1) lv' st k n S) : Run g l u Q pc lv (.ref x :: st) k n S :=
  fun p e s m args below meth c A H locs ls C hW hS hl => lv_astore_n C.1 C.2.1 hd hi hl hn hl' (fun ls hl => h p e s m args below meth c A H locs ls C hW hS hl)
theorem r_astore {g : GG} {l : Launch} {u : MU} {Q : FQ} {pc : Nat} {lv : List (Nat × Value)} {st : List Value} {k n : Nat} {S : Mem} {i : Nat} {x : Nat} {lv' : List (Nat × Value)} (hd : decode (uC u) pc = .ok (.astore i, 2)) (hn : i < uN u) (hl' : (i, Value.ref x) :: lv.filter (fun q => !(q.1 == i) && !(q.1 + 1 == i && q.2.category == 2)) = lv') (h : Run g l u Q (pc + 2) lv' st k n S) : Run g l u Q pc lv (.ref x :: st) k n S :=
  fun p e s m args below meth c A H locs ls C hW hS hl => lv_astore C.1 C.2.1 hd hl hn hl' (fun ls hl => h p e s m args below meth c A H locs ls C hW hS hl)
theorem r_fstore_n {g : GG} {l : Launch} {u : MU} {Q : FQ} {pc : Nat} {lv : List (Nat × Value)} {st : List Value} {k n : Nat} {S : Mem} {z : Fin 4} {i : Nat} {x : UInt32} {lv' : List (Nat × Value)} (hd : decode (uC u) pc = .ok (.fstore_n z, 1)) (hi : (z : Nat) = i) (hn : i < uN u) (hl' : (i, Value.float x) :: lv.filter (fun q => !(q.1 == i) && !(q.1 + 1 == i && q.2.category == 2)) = lv') (h : Run g l u Q (pc + 1) lv' st k n S) : Run g l u Q pc lv (.float x :: st) k n S :=
  fun p e s m args below meth c A H locs ls C hW hS hl => lv_fstore_n C.1 C.2.1 hd hi hl hn hl' (fun ls hl => h p e s m args below meth c A H locs ls C hW hS hl)
theorem r_fstore {g : GG} {l : Launch} {u : MU} {Q : FQ} {pc : Nat} {lv : List (Nat × Value)} {st : List Value} {k n : Nat} {S : Mem} {i : Nat} {x : UInt32} {lv' : List (Nat × Value)} (hd : decode (uC u) pc = .ok (.fstore i, 2)) (hn : i < uN u) (hl' : (i, Value.float x) :: lv.filter (fun q => !(q.1 == i) && !(q.1 + 1 == i && q.2.category == 2)) = lv') (h : Run g l u Q (pc + 2) lv' st k n S) : Run g l u Q pc lv (.float x :: st) k n S :=
  fun p e s m args below meth c A H locs ls C hW hS hl => lv_fstore C.1 C.2.1 hd hl hn hl' (fun ls hl => h p e s m args below meth c A H locs ls C hW hS hl)
theorem r_iinc {g : GG} {l : Launch} {u : MU} {Q : FQ} {pc : Nat} {lv : List (Nat × Value)} {st : List Value} {k n : Nat} {S : Mem} {i : Nat} {d : Int} {x v : Int32} {lv' : List (Nat × Value)} (hd : decode (uC u) pc = .ok (.iinc i d, 3)) (j : Nat) (hj : lv[j]? = some (i, .int x)) (hv : x + Int32.ofInt d = v) (hn : i < uN u) (hl' : (i, Value.int v) :: lv.filter (fun q => !(q.1 == i) && !(q.1 + 1 == i && q.2.category == 2)) = lv') (h : Run g l u Q (pc + 3) lv' st k n S) : Run g l u Q pc lv st k n S :=
  fun p e s m args below meth c A H locs ls C hW hS hl => lv_iinc C.1 C.2.1 hd hl hj hv hn hl' (fun ls hl => h p e s m args below meth c A H locs ls C hW hS hl)
theorem r_if_eq {g : GG} {l : Launch} {u : MU} {Q : FQ} {pc : Nat} {lv : List (Nat × Value)} {st : List Value} {k n : Nat} {S : Mem} {x : Int32} {off : Int} {tgt : Nat} (hd : decode (uC u) pc = .ok (.ifCond .eq off, 3)) (ht : (pc : Int) + off = (tgt : Int)) (ht' : x = 0 → Run g l u Q tgt lv st k n S) (hf' : ¬ x = 0 → Run g l u Q (pc + 3) lv st k n S) : Run g l u Q pc lv (.int x :: st) k n S :=
  fun p e s m args below meth c A H locs ls C hW hS hl => lv_if_eq C.1 C.2.1 hd ht (fun q => ht' q p e s m args below meth c A H locs ls C hW hS hl) (fun q => hf' q p e s m args below meth c A H locs ls C hW hS hl)
theorem r_icmp_eq {g : GG} {l : Launch} {u : MU} {Q : FQ} {pc : Nat} {lv : List (Nat × Value)} {st : List Value} {k n : Nat} {S : Mem} {x y : Int32} {off : Int} {tgt : Nat} (hd : decode (uC u) pc = .ok (.if_icmp .eq off, 3)) (ht : (pc : Int) + off = (tgt : Int)) (ht' : x = y → Run g l u Q tgt lv st k n S) (hf' : ¬ x = y → Run g l u Q (pc + 3) lv st k n S) : Run g l u Q pc lv (.int y :: .int x :: st) k n S :=
  fun p e s m args below meth c A H locs ls C hW hS hl => lv_icmp_eq C.1 C.2.1 hd ht (fun q => ht' q p e s m args below meth c A H locs ls C hW hS hl) (fun q => hf' q p e s m args below meth c A H locs ls C hW hS hl)
theorem r_if_ne {g : GG} {l : Launch} {u : MU} {Q : FQ} {pc : Nat} {lv : List (Nat × Value)} {st : List Value} {k n : Nat} {S : Mem} {x : Int32} {off : Int} {tgt : Nat} (hd : decode (uC u) pc = .ok (.ifCond .ne off, 3)) (ht : (pc : Int) + off = (tgt : Int)) (ht' : ¬ x = 0 → Run g l u Q tgt lv st k n S) (hf' : x = 0 → Run g l u Q (pc + 3) lv st k n S) : Run g l u Q pc lv (.int x :: st) k n S :=
  fun p e s m args below meth c A H locs ls C hW hS hl => lv_if_ne C.1 C.2.1 hd ht (fun q => ht' q p e s m args below meth c A H locs ls C hW hS hl) (fun q => hf' q p e s m args below meth c A H locs ls C hW hS hl)
theorem r_icmp_ne {g : GG} {l : Launch} {u : MU} {Q : FQ} {pc : Nat} {lv : List (Nat × Value)} {st : List Value} {k n : Nat} {S : Mem} {x y : Int32} {off : Int} {tgt : Nat} (hd : decode (uC u) pc = .ok (.if_icmp .ne off, 3)) (ht : (pc : Int) + off = (tgt : Int)) (ht' : ¬ x = y → Run g l u Q tgt lv st k n S) (hf' : x = y → Run g l u Q (pc + 3) lv st k n S) : Run g l u Q pc lv (.int y :: .int x :: st) k n S :=
  fun p e s m args below meth c A H locs ls C hW hS hl => lv_icmp_ne C.1 C.2.1 hd ht (fun q => ht' q p e s m args below meth c A H locs ls C hW hS hl) (fun q => hf' q p e s m args below meth c A H locs ls C hW hS hl)
theorem r_if_lt {g : GG} {l : Launch} {u : MU} {Q : FQ} {pc : Nat} {lv : List (Nat × Value)} {st : List Value} {k n : Nat} {S : Mem} {x : Int32} {off : Int} {tgt : Nat} (hd : decode (uC u) pc = .ok (.ifCond .lt off, 3)) (ht : (pc : Int) + off = (tgt : Int)) (ht' : x < 0 → Run g l u Q tgt lv st k n S) (hf' : ¬ x < 0 → Run g l u Q (pc + 3) lv st k n S) : Run g l u Q pc lv (.int x :: st) k n S :=
  fun p e s m args below meth c A H locs ls C hW hS hl => lv_if_lt C.1 C.2.1 hd ht (fun q => ht' q p e s m args below meth c A H locs ls C hW hS hl) (fun q => hf' q p e s m args below meth c A H locs ls C hW hS hl)
theorem r_icmp_lt {g : GG} {l : Launch} {u : MU} {Q : FQ} {pc : Nat} {lv : List (Nat × Value)} {st : List Value} {k n : Nat} {S : Mem} {x y : Int32} {off : Int} {tgt : Nat} (hd : decode (uC u) pc = .ok (.if_icmp .lt off, 3)) (ht : (pc : Int) + off = (tgt : Int)) (ht' : x < y → Run g l u Q tgt lv st k n S) (hf' : ¬ x < y → Run g l u Q (pc + 3) lv st k n S) : Run g l u Q pc lv (.int y :: .int x :: st) k n S :=
  fun p e s m args below meth c A H locs ls C hW hS hl => lv_icmp_lt C.1 C.2.1 hd ht (fun q => ht' q p e s m args below meth c A H locs ls C hW hS hl) (fun q => hf' q p e s m args below meth c A H locs ls C hW hS hl)
theorem r_if_ge {g : GG} {l : Launch} {u : MU} {Q : FQ} {pc : Nat} {lv : List (Nat × Value)} {st : List Value} {k n : Nat} {S : Mem} {x : Int32} {off : Int} {tgt : Nat} (hd : decode (uC u) pc = .ok (.ifCond .ge off, 3)) (ht : (pc : Int) + off = (tgt : Int)) (ht' : 0 ≤ x → Run g l u Q tgt lv st k n S) (hf' : ¬ 0 ≤ x → Run g l u Q (pc + 3) lv st k n S) : Run g l u Q pc lv (.int x :: st) k n S :=
  fun p e s m args below meth c A H locs ls C hW hS hl => lv_if_ge C.1 C.2.1 hd ht (fun q => ht' q p e s m args below meth c A H locs ls C hW hS hl) (fun q => hf' q p e s m args below meth c A H locs ls C hW hS hl)
theorem r_icmp_ge {g : GG} {l : Launch} {u : MU} {Q : FQ} {pc : Nat} {lv : List (Nat × Value)} {st : List Value} {k n : Nat} {S : Mem} {x y : Int32} {off : Int} {tgt : Nat} (hd : decode (uC u) pc = .ok (.if_icmp .ge off, 3)) (ht : (pc : Int) + off = (tgt : Int)) (ht' : y ≤ x → Run g l u Q tgt lv st k n S) (hf' : ¬ y ≤ x → Run g l u Q (pc + 3) lv st k n S) : Run g l u Q pc lv (.int y :: .int x :: st) k n S :=
  fun p e s m args below meth c A H locs ls C hW hS hl => lv_icmp_ge C.1 C.2.1 hd ht (fun q => ht' q p e s m args below meth c A H locs ls C hW hS hl) (fun q => hf' q p e s m args below meth c A H locs ls C hW hS hl)
theorem r_if_gt {g : GG} {l : Launch} {u : MU} {Q : FQ} {pc : Nat} {lv : List (Nat × Value)} {st : List Value} {k n : Nat} {S : Mem} {x : Int32} {off : Int} {tgt : Nat} (hd : decode (uC u) pc = .ok (.ifCond .gt off, 3)) (ht : (pc : Int) + off = (tgt : Int)) (ht' : 0 < x → Run g l u Q tgt lv st k n S) (hf' : ¬ 0 < x → Run g l u Q (pc + 3) lv st k n S) : Run g l u Q pc lv (.int x :: st) k n S :=
  fun p e s m args below meth c A H locs ls C hW hS hl => lv_if_gt C.1 C.2.1 hd ht (fun q => ht' q p e s m args below meth c A H locs ls C hW hS hl) (fun q => hf' q p e s m args below meth c A H locs ls C hW hS hl)
theorem r_icmp_gt {g : GG} {l : Launch} {u : MU} {Q : FQ} {pc : Nat} {lv : List (Nat × Value)} {st : List Value} {k n : Nat} {S : Mem} {x y : Int32} {off : Int} {tgt : Nat} (hd : decode (uC u) pc = .ok (.if_icmp .gt off, 3)) (ht : (pc : Int) + off = (tgt : Int)) (ht' : y < x → Run g l u Q tgt lv st k n S) (hf' : ¬ y < x → Run g l u Q (pc + 3) lv st k n S) : Run g l u Q pc lv (.int y :: .int x :: st) k n S :=
  fun p e s m args below meth c A H locs ls C hW hS hl => lv_icmp_gt C.1 C.2.1 hd ht (fun q => ht' q p e s m args below meth c A H locs ls C hW hS hl) (fun q => hf' q p e s m args below meth c A H locs ls C hW hS hl)
theorem r_if_le {g : GG} {l : Launch} {u : MU} {Q : FQ} {pc : Nat} {lv : List (Nat × Value)} {st : List Value} {k n : Nat} {S : Mem} {x : Int32} {off : Int} {tgt : Nat} (hd : decode (uC u) pc = .ok (.ifCond .le off, 3)) (ht : (pc : Int) + off = (tgt : Int)) (ht' : x ≤ 0 → Run g l u Q tgt lv st k n S) (hf' : ¬ x ≤ 0 → Run g l u Q (pc + 3) lv st k n S) : Run g l u Q pc lv (.int x :: st) k n S :=
  fun p e s m args below meth c A H locs ls C hW hS hl => lv_if_le C.1 C.2.1 hd ht (fun q => ht' q p e s m args below meth c A H locs ls C hW hS hl) (fun q => hf' q p e s m args below meth c A H locs ls C hW hS hl)
theorem r_icmp_le {g : GG} {l : Launch} {u : MU} {Q : FQ} {pc : Nat} {lv : List (Nat × Value)} {st : List Value} {k n : Nat} {S : Mem} {x y : Int32} {off : Int} {tgt : Nat} (hd : decode (uC u) pc = .ok (.if_icmp .le off, 3)) (ht : (pc : Int) + off = (tgt : Int)) (ht' : x ≤ y → Run g l u Q tgt lv st k n S) (hf' : ¬ x ≤ y → Run g l u Q (pc + 3) lv st k n S) : Run g l u Q pc lv (.int y :: .int x :: st) k n S :=
  fun p e s m args below meth c A H locs ls C hW hS hl => lv_icmp_le C.1 C.2.1 hd ht (fun q => ht' q p e s m args below meth c A H locs ls C hW hS hl) (fun q => hf' q p e s m args below meth c A H locs ls C hW hS hl)
theorem r_goto {g : GG} {l : Launch} {u : MU} {Q : FQ} {pc : Nat} {lv : List (Nat × Value)} {st : List Value} {k n : Nat} {S : Mem} {off : Int} {tgt : Nat} (hd : decode (uC u) pc = .ok (.goto off, 3)) (ht : (pc : Int) + off = (tgt : Int)) (h : Run g l u Q tgt lv st k n S) : Run g l u Q pc lv st k n S :=
  fun p e s m args below meth c A H locs ls C hW hS hl => lv_goto C.1 C.2.1 hd ht (h p e s m args below meth c A H locs ls C hW hS hl)
theorem r_fconst0 {g : GG} {l : Launch} {u : MU} {Q : FQ} {pc : Nat} {lv : List (Nat × Value)} {st : List Value} {k n : Nat} {S : Mem} (hd : decode (uC u) pc = .ok (.fconst 0, 1)) (h : Run g l u Q (pc + 1) lv (.float FP.fconst0 :: st) k n S) : Run g l u Q pc lv st k n S :=
  fun p e s m args below meth c A H locs ls C hW hS hl => lv_fconst0 C.1 C.2.1 hd (h p e s m args below meth c A H locs ls C hW hS hl)
theorem r_lcmp {g : GG} {l : Launch} {u : MU} {Q : FQ} {pc : Nat} {lv : List (Nat × Value)} {st : List Value} {k n : Nat} {S : Mem} {x y : Int64} (hd : decode (uC u) pc = .ok (.lcmp, 1)) (h : Run g l u Q (pc + 1) lv (.int (lg_cmp x y) :: st) k n S) : Run g l u Q pc lv (.long y :: .long x :: st) k n S :=
  fun p e s m args below meth c A H locs ls C hW hS hl => W.lcmp C.1 C.2.1 hd (h p e s m args below meth c A H locs ls C hW hS hl)
theorem r_dup2 {g : GG} {l : Launch} {u : MU} {Q : FQ} {pc : Nat} {lv : List (Nat × Value)} {st : List Value} {k n : Nat} {S : Mem} {va vb : Value} (hd : decode (uC u) pc = .ok (.dup2, 1)) (hva : va.category = 1) (hvb : vb.category = 1) (h : Run g l u Q (pc + 1) lv (va :: vb :: va :: vb :: st) k n S) : Run g l u Q pc lv (va :: vb :: st) k n S :=
  fun p e s m args below meth c A H locs ls C hW hS hl => lv_dup2_11 C.1 C.2.1 hd hva hvb (h p e s m args below meth c A H locs ls C hW hS hl)
theorem r_ldcf {g : GG} {l : Launch} {u : MU} {Q : FQ} {pc : Nat} {lv : List (Nat × Value)} {st : List Value} {k n : Nat} {S : Mem} {index : Nat} {v : UInt32} (hd : decode (uC u) pc = .ok (.ldc index, 2)) (hm : Cond.constantFloat (uY u).cls index v ∈ lw_tbl) (h : Run g l u Q (pc + 2) lv (.float v :: st) k n S) : Run g l u Q pc lv st k n S :=
  fun p e s m args below meth c A H locs ls C hW hS hl => lv_ldcf C.1 C.2.1 C.2.2.2.2.1 (Cx_w C hm rfl) hd (h p e s m args below meth c A H locs ls C hW hS hl)
theorem r_ldc2 {g : GG} {l : Launch} {u : MU} {Q : FQ} {pc : Nat} {lv : List (Nat × Value)} {st : List Value} {k n : Nat} {S : Mem} {index : Nat} {v : Int64} (hd : decode (uC u) pc = .ok (.ldc2_w index, 3)) (hm : Cond.constantLong (uY u).cls index v ∈ lw_tbl) (h : Run g l u Q (pc + 3) lv (.long v :: st) k n S) : Run g l u Q pc lv st k n S :=
  fun p e s m args below meth c A H locs ls C hW hS hl => lv_ldc2 C.1 C.2.1 C.2.2.2.2.1 (Cx_w C hm rfl) hd (h p e s m args below meth c A H locs ls C hW hS hl)
end
section
/-! Rules of instructions that read and write the memory. -/
/-- a class of vwCl: number, name, fields, types; its words among the tables' -/
def CF (ci : Nat) (D : String) (T : u_T) (N : Nat) (ty : Nat → FieldType) : Prop :=
  vwCl[ci]? = some (D, T, N) ∧ N = nfT ci ∧ (∀ w ∈ u_ws D T N, w ∈ lw_tbl ∧ gw w = true) ∧ (∀ k, k < N → parseFieldDescriptor (T k).2.2.1 = some (ty k)) ∧ (∀ a, a < N → ∀ b, b < N → a ≠ b → (T a).2.1 ≠ (T b).2.1) ∧ ci < 7
/-- entry idx of own's pool is field k of class ci, final or not, of a type -/
def FL (own : String) (idx ci k : Nat) (f : Bool) (t : FieldType) : Prop :=
  ∃ (D : String) (T : u_T) (N : Nat) (ty : Nat → FieldType), CF ci D T N ty ∧ k < N ∧ (T k).2.2.2 = f ∧ ty k = t ∧
    (Cond.fieldLink own idx (T k).1 (T k).2.1 (T k).2.2.1 ∈ lw_tbl ∨ ∃ host : String, Cond.fieldLinkNest own idx (T k).1 (T k).2.1 (T k).2.2.1 host ∈ lw_tbl)
/-- entry idx of own's pool is a final field of own, by its plain link -/
def FF (own : String) (idx ci k : Nat) (t : FieldType) : Prop :=
  ∃ (D : String) (T : u_T) (N : Nat) (ty : Nat → FieldType), CF ci D T N ty ∧ k < N ∧ (T k).2.2.2 = true ∧ ty k = t ∧ (T k).1 = own ∧ Cond.fieldLink own idx (T k).1 (T k).2.1 (T k).2.2.1 ∈ lw_tbl
section RH
variable {g : GG} {l : Launch} {u : MU} {Q : FQ} {pc : Nat} {lv : List (Nat × Value)} {st : List Value} {k n : Nat} {S : Mem}
theorem r_getV {idx ci j a : Nat} {f : Bool} {t : FieldType} (hd : decode (uC u) pc = .ok (.getfield idx, 3)) (hf : FL (uY u).cls idx ci j f t) (ho : ok S a ci) (h : Run g l u Q (pc + 3) lv (fvM S a ci j :: st) k n S) : Run g l u Q pc lv (.ref a :: st) k n S := by
  intro p e s m args below meth c A H locs ls C hW hS hl
  obtain ⟨D, T, N, ty, ⟨c1, c2, c3, c4, c5, c6⟩, hj, -, -, hlink⟩ := hf
  obtain ⟨q, hq⟩ := mW_get g ho.1
  rw [mCell_o ho.2 c6] at hq
  have hv : (fsM S a ci)[j]? = some (fvM S a ci j) := fsM_get (by rw [← c2]; exact hj)
  rcases hlink with h1 | ⟨host, h1⟩
  · exact va_get (Ts := u_ws D T N) C.1 C.2.1 (fun w hw => Cx_w C (c3 w hw).1 (c3 w hw).2) (fun _ h => h) C.2.2.2.2.1 C.2.2.2.2.2.2.2.2.1.2.2.1 hW.1 q hq c1 j hj (Cx_w C h1 rfl) (fun _ h => h) hv hd (h p e s m args below meth c A H locs ls C hW hS hl)
  · exact va_getN (Ts := u_ws D T N) C.1 C.2.1 (fun w hw => Cx_w C (c3 w hw).1 (c3 w hw).2) (fun _ h => h) C.2.2.2.2.1 C.2.2.2.2.2.2.2.2.1.2.2.1 hW.1 q hq c1 j hj (Cx_w C h1 rfl) (fun _ h => h) hv hd (h p e s m args below meth c A H locs ls C hW hS hl)
theorem r_getI {idx ci j a : Nat} {f : Bool} {t : FieldType} (hd : decode (uC u) pc = .ok (.getfield idx, 3)) (hf : FL (uY u).cls idx ci j f t) (hr : rfT ci j = false) (ho : ok S a ci) (h : Run g l u Q (pc + 3) lv (.int (mI S a j) :: st) k n S) : Run g l u Q pc lv (.ref a :: st) k n S := by
  refine r_getV hd hf ho ?_
  rw [show fvM S a ci j = .int (mI S a j) by simp [fvM, hr]]
  exact h
theorem r_getR {idx ci j a b : Nat} {f : Bool} {t : FieldType} (hd : decode (uC u) pc = .ok (.getfield idx, 3)) (hf : FL (uY u).cls idx ci j f t) (hr : rfT ci j = true) (ho : ok S a ci) (hv : mR S a j = some b) (h : Run g l u Q (pc + 3) lv (.ref b :: st) k n S) : Run g l u Q pc lv (.ref a :: st) k n S := by
  refine r_getV hd hf ho ?_
  rw [show fvM S a ci j = .ref b by simp [fvM, hr, hv, va_rf]]
  exact h
/-- a store changes one cell -/
theorem okW_set {A : Nat → Prop} {H H1 : Heap} {s : State} {S' : Mem} {a q : Nat} {ce : va_E} {f : Bool} (hW : okW g A S H s k f) (ha : a ∈ mL S) (hq : (mW g S)[q]? = some (a, mCell g S a)) (hL : mL S' = mL S) (hX : mX S' = mX S) (hc : ∀ b, va_up (mCell g S) a ce b = mCell g S' b) (hP : va_P g.1 vwCl ((mW g S).set q (a, ce)) H1) (hD : va_D A ((mW g S).set q (a, ce))) : okW g A S' H1 s k f := by
  have e := mW_set (S' := S') hW.2.1 ha hq hL hc
  rw [e] at hP hD
  exact ⟨hP, hD, by unfold xk; rw [hL, hX]; exact hW.2.2⟩
theorem cell_sI {a ci j : Nat} (hK : mK S a = ci) (hc : ci < 7) (hr : rfT ci j = false) (v : Int32) (b : Nat) : va_up (mCell g S) a (.inr (ci, (fsM S a ci).set j (.int v))) b = mCell g (sI S a j v) b := by
  by_cases hb : b = a
  · subst hb
    rw [va_up_self, mCell_o (S := sI S b j v) (c := ci) hK hc]
    congr 2
    refine fsM_set ?_ ?_
    · simp [fvM, hr, sI, mI, up2]
    · intro i hi
      simp [fvM, sI, mI, mR, up2, hi]
  · rw [va_up_ne _ _ hb]
    exact (mCell_eq (S := S) (S' := sI S a j v) rfl rfl (up2_row _ _ hb) rfl rfl rfl).symm
theorem cell_sR {a ci j : Nat} (hK : mK S a = ci) (hc : ci < 7) (hr : rfT ci j = true) (v : Option Nat) (b : Nat) : va_up (mCell g S) a (.inr (ci, (fsM S a ci).set j (va_rf v))) b = mCell g (sR S a j v) b := by
  by_cases hb : b = a
  · subst hb
    rw [va_up_self, mCell_o (S := sR S b j v) (c := ci) hK hc]
    congr 2
    refine fsM_set ?_ ?_
    · simp [fvM, hr, sR, mR, up2]
    · intro i hi
      simp [fvM, sR, mI, mR, up2, hi]
  · rw [va_up_ne _ _ hb]
    exact (mCell_eq (S := S) (S' := sR S a j v) rfl rfl rfl (up2_row _ _ hb) rfl rfl).symm
theorem r_putV {idx ci j a : Nat} {t : FieldType} {v : Value} {S' : Mem} (hd : decode (uC u) pc = .ok (.putfield idx, 3)) (hf : FL (uY u).cls idx ci j false t) (hn : narrow t v = v) (hfit : fits t v = true) (ho : ok S a ci)
    (hL : mL S' = mL S) (hX : mX S' = mX S) (hc : ∀ b, va_up (mCell g S) a (.inr (ci, (fsM S a ci).set j v)) b = mCell g S' b) (h : Run g l u Q (pc + 3) lv st k n S') : Run g l u Q pc lv (v :: .ref a :: st) k n S := by
  intro p e s m args below meth c A H locs ls C hW hS hl
  obtain ⟨D, T, N, ty, ⟨c1, c2, c3, c4, c5, c6⟩, hj, hfin, hty, hlink⟩ := hf
  obtain ⟨q, hq0⟩ := mW_get g ho.1
  have hq := hq0
  rw [mCell_o ho.2 c6] at hq
  have hd2 : parseFieldDescriptor (T j).2.2.1 = some t := by rw [← hty]; exact c4 j hj
  have hlen : j < (fsM S a ci).length := by rw [fsM_len, ← c2]; exact hj
  rcases hlink with h1 | ⟨host, h1⟩
  · exact va_put (Ts := u_ws D T N) C.1 C.2.1 (fun w hw => Cx_w C (c3 w hw).1 (c3 w hw).2) (fun _ h => h) ty c4 c5 C.2.2.2.2.1 C.2.2.2.2.2.2.2.2.1.2.2.1 hW.1 hW.2.1 hS q hq c1 j hj (Cx_w C h1 rfl) (fun _ h => h) hfin hd2 hn hfit hlen hd
      (fun H1 locs1 hP1 hD1 hS1 => h p e s m args below meth c A H1 locs1 ls C (okW_set hW ho.1 hq0 hL hX hc hP1 hD1) hS1 hl)
  · exact va_putN (Ts := u_ws D T N) C.1 C.2.1 (fun w hw => Cx_w C (c3 w hw).1 (c3 w hw).2) (fun _ h => h) ty c4 c5 C.2.2.2.2.1 C.2.2.2.2.2.2.2.2.1.2.2.1 hW.1 hW.2.1 hS q hq c1 j hj (Cx_w C h1 rfl) (fun _ h => h) hfin hd2 hn hfit hlen hd
      (fun H1 locs1 hP1 hD1 hS1 => h p e s m args below meth c A H1 locs1 ls C (okW_set hW ho.1 hq0 hL hX hc hP1 hD1) hS1 hl)
theorem FL_lt {own : String} {idx ci j : Nat} {f : Bool} {t : FieldType} (hf : FL own idx ci j f t) : ci < 7 := by
  obtain ⟨D, T, N, ty, ⟨c1, c2, c3, c4, c5, c6⟩, -⟩ := hf
  exact c6
theorem r_putI {idx ci j a : Nat} {x : Int32} (hd : decode (uC u) pc = .ok (.putfield idx, 3)) (hf : FL (uY u).cls idx ci j false .int) (hr : rfT ci j = false) (ho : ok S a ci) (h : Run g l u Q (pc + 3) lv st k n (sI S a j x)) : Run g l u Q pc lv (.int x :: .ref a :: st) k n S :=
  r_putV (S' := sI S a j x) hd hf rfl rfl ho rfl rfl (cell_sI ho.2 (FL_lt hf) hr x) h
theorem narrow_b {x : Int32} (h : x = 0 ∨ x = 1) : narrow .boolean (.int x) = .int x ∧ fits .boolean (.int x) = true ∧ vp_nar .boolean x = x := by
  rcases h with rfl | rfl <;> exact ⟨by decide, by decide, by decide⟩
theorem r_putZ {idx ci j a : Nat} {x : Int32} (hd : decode (uC u) pc = .ok (.putfield idx, 3)) (hf : FL (uY u).cls idx ci j false .boolean) (hr : rfT ci j = false) (hx : x = 0 ∨ x = 1) (ho : ok S a ci) (h : Run g l u Q (pc + 3) lv st k n (sI S a j x)) : Run g l u Q pc lv (.int x :: .ref a :: st) k n S :=
  r_putV (S' := sI S a j x) hd hf (narrow_b hx).1 (narrow_b hx).2.1 ho rfl rfl (cell_sI ho.2 (FL_lt hf) hr x) h
theorem r_putF {idx ci j a b : Nat} {t : FieldType} (hd : decode (uC u) pc = .ok (.putfield idx, 3)) (hf : FF (uY u).cls idx ci j t) (hi : (uY u).name = "<init>") (hr : rfT ci j = true) (hn : narrow t (.ref b) = .ref b) (hfit : fits t (.ref b) = true) (ho : ok S a ci) (h : Run g l u Q (pc + 3) lv st k n (sR S a j (some b))) : Run g l u Q pc lv (.ref b :: .ref a :: st) k n S := by
  intro p e s m args below meth c A H locs ls C hW hS hl
  obtain ⟨D, T, N, ty, ⟨c1, c2, c3, c4, c5, c6⟩, hj, hfin, hty, hown, h1⟩ := hf
  obtain ⟨q, hq0⟩ := mW_get g ho.1
  have hq := hq0
  rw [mCell_o ho.2 c6] at hq
  have hd2 : parseFieldDescriptor (T j).2.2.1 = some t := by rw [← hty]; exact c4 j hj
  have hlen : j < (fsM S a ci).length := by rw [fsM_len, ← c2]; exact hj
  exact va_putF (Ts := u_ws D T N) C.1 C.2.1 (fun w hw => Cx_w C (c3 w hw).1 (c3 w hw).2) (fun _ h => h) ty c4 c5 C.2.2.2.2.1 C.2.2.2.2.2.2.2.2.1.2.2.1 hW.1 hW.2.1 hS q hq c1 j hj (Cx_w C h1 rfl) (fun _ h => h) hfin (C.2.2.2.2.2.2.1.trans hi) hown hd2 hn hfit hlen hd
      (fun H1 locs1 hP1 hD1 hS1 => h p e s m args below meth c A H1 locs1 ls C (okW_set hW ho.1 hq0 rfl rfl (cell_sR ho.2 c6 hr (some b)) hP1 hD1) hS1 hl)
-- arrays
theorem cell_7 {a j : Nat} (hK : mK S a = 7) (v : Int32) (b : Nat) : va_up (mCell g S) a (.inl (g.2.1 7, mN S a, .inl (upd (mI S a) j v))) b = mCell g (sI S a j v) b := by
  by_cases hb : b = a
  · subst hb
    rw [va_up_self, mCell_7 (S := sI S b j v) hK]
    show _ = Sum.inl (g.2.1 7, mN S b, Sum.inl (up2 (mI S) b j v b))
    rw [up2_at]
    rfl
  · rw [va_up_ne _ _ hb]
    exact (mCell_eq (S := S) (S' := sI S a j v) rfl rfl (up2_row _ _ hb) rfl rfl rfl).symm
theorem cell_8 {a j : Nat} (hK : mK S a = 8) (v : Int32) (b : Nat) : va_up (mCell g S) a (.inl (g.2.1 8, mN S a, .inl (upd (mI S a) j v))) b = mCell g (sI S a j v) b := by
  by_cases hb : b = a
  · subst hb
    rw [va_up_self, mCell_8 (S := sI S b j v) hK]
    show _ = Sum.inl (g.2.1 8, mN S b, Sum.inl (up2 (mI S) b j v b))
    rw [up2_at]
    rfl
  · rw [va_up_ne _ _ hb]
    exact (mCell_eq (S := S) (S' := sI S a j v) rfl rfl (up2_row _ _ hb) rfl rfl rfl).symm
theorem cell_9 {a j : Nat} (hK : mK S a = 9) (v : Option Nat) (b : Nat) : va_up (mCell g S) a (.inl (g.2.1 9, mN S a, .inr (.inr (.inr (.inr (va_up (mR S a) j v)))))) b = mCell g (sR S a j v) b := by
  by_cases hb : b = a
  · subst hb
    rw [va_up_self, mCell_9 (S := sR S b j v) hK]
    show _ = Sum.inl (g.2.1 9, mN S b, Sum.inr (Sum.inr (Sum.inr (Sum.inr (up2 (mR S) b j v b)))))
    rw [up2_at]
  · rw [va_up_ne _ _ hb]
    exact (mCell_eq (S := S) (S' := sR S a j v) rfl rfl rfl (up2_row _ _ hb) rfl rfl).symm
theorem cell_10 {a j : Nat} (hK : mK S a = 10) (v : Int64) (b : Nat) : va_up (mCell g S) a (.inl (g.2.1 10, mN S a, .inr (.inl (vp_updL (mJ S a) j v)))) b = mCell g (sJ S a j v) b := by
  by_cases hb : b = a
  · subst hb
    rw [va_up_self, mCell_10 (S := sJ S b j v) hK]
    show _ = Sum.inl (g.2.1 10, mN S b, Sum.inr (Sum.inl (up2 (mJ S) b j v b)))
    rw [up2_at]
    rfl
  · rw [va_up_ne _ _ hb]
    exact (mCell_eq (S := S) (S' := sJ S a j v) rfl rfl rfl rfl (up2_row _ _ hb) rfl).symm
theorem cell_11 {a j : Nat} (hK : mK S a = 11) (v : UInt64) (b : Nat) : va_up (mCell g S) a (.inl (g.2.1 11, mN S a, .inr (.inr (.inr (.inl (vf_upd (mD S a) j v)))))) b = mCell g (sD S a j v) b := by
  by_cases hb : b = a
  · subst hb
    rw [va_up_self, mCell_11 (S := sD S b j v) hK]
    show _ = Sum.inl (g.2.1 11, mN S b, Sum.inr (Sum.inr (Sum.inr (Sum.inl (up2 (mD S) b j v b)))))
    rw [up2_at]
    rfl
  · rw [va_up_ne _ _ hb]
    exact (mCell_eq (S := S) (S' := sD S a j v) rfl rfl rfl rfl rfl (up2_row _ _ hb)).symm
theorem r_iaload {a : Nat} {i : Int32} (hd : decode (uC u) pc = .ok (.iaload, 1)) (ho : ok S a 7) (hi : vp_in i (mN S a)) (h : Run g l u Q (pc + 1) lv (.int (mI S a i.toNatClampNeg) :: st) k n S) : Run g l u Q pc lv (.int i :: .ref a :: st) k n S := by
  intro p e s m args below meth c A H locs ls C hW hS hl
  obtain ⟨q, hq⟩ := mW_get g ho.1
  rw [mCell_7 ho.2] at hq
  exact va_iald C.1 C.2.1 C.2.2.2.2.2.2.2.2.1.2.2.1 hW.1 q 0 hq rfl hi hd (h p e s m args below meth c A H locs ls C hW hS hl)
theorem r_baload {a : Nat} {i : Int32} (hd : decode (uC u) pc = .ok (.baload, 1)) (ho : ok S a 8) (hi : vp_in i (mN S a)) (h : Run g l u Q (pc + 1) lv (.int (mI S a i.toNatClampNeg) :: st) k n S) : Run g l u Q pc lv (.int i :: .ref a :: st) k n S := by
  intro p e s m args below meth c A H locs ls C hW hS hl
  obtain ⟨q, hq⟩ := mW_get g ho.1
  rw [mCell_8 ho.2] at hq
  exact va_zald C.1 C.2.1 C.2.2.2.2.2.2.2.2.1.2.2.1 hW.1 q 1 hq rfl hi hd (h p e s m args below meth c A H locs ls C hW hS hl)
theorem r_aaload {a b : Nat} {i : Int32} (hd : decode (uC u) pc = .ok (.aaload, 1)) (ho : ok S a 9) (hi : vp_in i (mN S a)) (hv : mR S a i.toNatClampNeg = some b) (h : Run g l u Q (pc + 1) lv (.ref b :: st) k n S) : Run g l u Q pc lv (.int i :: .ref a :: st) k n S := by
  intro p e s m args below meth c A H locs ls C hW hS hl
  obtain ⟨q, hq⟩ := mW_get g ho.1
  rw [mCell_9 ho.2] at hq
  refine va_aldq C.1 C.2.1 C.2.2.2.2.2.2.2.2.1.2.2.1 hW.1 q 2 hq rfl hi hd ?_
  rw [hv]
  exact h p e s m args below meth c A H locs ls C hW hS hl
theorem r_laload {a : Nat} {i : Int32} (hd : decode (uC u) pc = .ok (.laload, 1)) (ho : ok S a 10) (hi : vp_in i (mN S a)) (h : Run g l u Q (pc + 1) lv (.long (mJ S a i.toNatClampNeg) :: st) k n S) : Run g l u Q pc lv (.int i :: .ref a :: st) k n S := by
  intro p e s m args below meth c A H locs ls C hW hS hl
  obtain ⟨q, hq⟩ := mW_get g ho.1
  rw [mCell_10 ho.2] at hq
  exact va_lald C.1 C.2.1 C.2.2.2.2.2.2.2.2.1.2.2.1 hW.1 q 3 hq rfl hi hd (h p e s m args below meth c A H locs ls C hW hS hl)
theorem r_daload {a : Nat} {i : Int32} (hd : decode (uC u) pc = .ok (.daload, 1)) (ho : ok S a 11) (hi : vp_in i (mN S a)) (h : Run g l u Q (pc + 1) lv (.double (mD S a i.toNatClampNeg) :: st) k n S) : Run g l u Q pc lv (.int i :: .ref a :: st) k n S := by
  intro p e s m args below meth c A H locs ls C hW hS hl
  obtain ⟨q, hq⟩ := mW_get g ho.1
  rw [mCell_11 ho.2] at hq
  exact va_dald C.1 C.2.1 C.2.2.2.2.2.2.2.2.1.2.2.1 hW.1 q 4 hq rfl hi hd (h p e s m args below meth c A H locs ls C hW hS hl)
theorem r_iastore {a : Nat} {i x : Int32} (hd : decode (uC u) pc = .ok (.iastore, 1)) (ho : ok S a 7) (hi : vp_in i (mN S a)) (h : Run g l u Q (pc + 1) lv st k n (sI S a i.toNatClampNeg x)) : Run g l u Q pc lv (.int x :: .int i :: .ref a :: st) k n S := by
  intro p e s m args below meth c A H locs ls C hW hS hl
  obtain ⟨q, hq0⟩ := mW_get g ho.1
  have hq := hq0
  rw [mCell_7 ho.2] at hq
  exact va_iast C.1 C.2.1 C.2.2.2.2.2.2.2.2.1.2.2.1 hW.1 hW.2.1 hS q 0 hq rfl hi hd (fun H1 locs1 hP1 hD1 hS1 => h p e s m args below meth c A H1 locs1 ls C (okW_set hW ho.1 hq0 rfl rfl (cell_7 ho.2 x) hP1 hD1) hS1 hl)
theorem r_bastore {a : Nat} {i x : Int32} (hd : decode (uC u) pc = .ok (.bastore, 1)) (ho : ok S a 8) (hi : vp_in i (mN S a)) (hx : x = 0 ∨ x = 1) (h : Run g l u Q (pc + 1) lv st k n (sI S a i.toNatClampNeg x)) : Run g l u Q pc lv (.int x :: .int i :: .ref a :: st) k n S := by
  intro p e s m args below meth c A H locs ls C hW hS hl
  obtain ⟨q, hq0⟩ := mW_get g ho.1
  have hq := hq0
  rw [mCell_8 ho.2] at hq
  refine va_zast C.1 C.2.1 C.2.2.2.2.2.2.2.2.1.2.2.1 hW.1 hW.2.1 hS q 1 hq rfl hi hd (fun H1 locs1 hP1 hD1 hS1 => ?_)
  rw [(narrow_b hx).2.2] at hP1 hD1
  exact h p e s m args below meth c A H1 locs1 ls C (okW_set hW ho.1 hq0 rfl rfl (cell_8 ho.2 x) hP1 hD1) hS1 hl
theorem r_aastore {a b : Nat} {i : Int32} (hd : decode (uC u) pc = .ok (.aastore, 1)) (ho : ok S a 9) (hb : ok S b 4) (hi : vp_in i (mN S a)) (h : Run g l u Q (pc + 1) lv st k n (sR S a i.toNatClampNeg (some b))) : Run g l u Q pc lv (.ref b :: .int i :: .ref a :: st) k n S := by
  intro p e s m args below meth c A H locs ls C hW hS hl
  obtain ⟨q, hq0⟩ := mW_get g ho.1
  obtain ⟨q2, hq2⟩ := mW_get g hb.1
  have hq := hq0
  rw [mCell_9 ho.2] at hq
  rw [mCell_o hb.2 (by decide)] at hq2
  exact va_astq (r := (RX4, TX4, 9)) C.1 C.2.1 C.2.2.2.2.2.2.2.2.1.2.2.1 hW.1 hW.2.1 hS q 2 q2 4 hq rfl hq2 rfl hi hd (fun H1 locs1 hP1 hD1 hS1 => h p e s m args below meth c A H1 locs1 ls C (okW_set hW ho.1 hq0 rfl rfl (cell_9 ho.2 (some b)) hP1 hD1) hS1 hl)
theorem r_lastore {a : Nat} {i : Int32} {x : Int64} (hd : decode (uC u) pc = .ok (.lastore, 1)) (ho : ok S a 10) (hi : vp_in i (mN S a)) (h : Run g l u Q (pc + 1) lv st k n (sJ S a i.toNatClampNeg x)) : Run g l u Q pc lv (.long x :: .int i :: .ref a :: st) k n S := by
  intro p e s m args below meth c A H locs ls C hW hS hl
  obtain ⟨q, hq0⟩ := mW_get g ho.1
  have hq := hq0
  rw [mCell_10 ho.2] at hq
  exact va_last C.1 C.2.1 C.2.2.2.2.2.2.2.2.1.2.2.1 hW.1 hW.2.1 hS q 3 hq rfl hi hd (fun H1 locs1 hP1 hD1 hS1 => h p e s m args below meth c A H1 locs1 ls C (okW_set hW ho.1 hq0 rfl rfl (cell_10 ho.2 x) hP1 hD1) hS1 hl)
theorem r_dastore {a : Nat} {i : Int32} {x : UInt64} (hd : decode (uC u) pc = .ok (.dastore, 1)) (ho : ok S a 11) (hi : vp_in i (mN S a)) (h : Run g l u Q (pc + 1) lv st k n (sD S a i.toNatClampNeg x)) : Run g l u Q pc lv (.double x :: .int i :: .ref a :: st) k n S := by
  intro p e s m args below meth c A H locs ls C hW hS hl
  obtain ⟨q, hq0⟩ := mW_get g ho.1
  have hq := hq0
  rw [mCell_11 ho.2] at hq
  exact va_dast C.1 C.2.1 C.2.2.2.2.2.2.2.2.1.2.2.1 hW.1 hW.2.1 hS q 4 hq rfl hi hd (fun H1 locs1 hP1 hD1 hS1 => h p e s m args below meth c A H1 locs1 ls C (okW_set hW ho.1 hq0 rfl rfl (cell_11 ho.2 x) hP1 hD1) hS1 hl)
end RH
theorem cf0 : CF 0 RX0 TX0 3 tyX0 := ⟨rfl, rfl, by decide +kernel, tyX0_ok, nmX0, by decide⟩
theorem cf1 : CF 1 RX1 TX1 4 tyX1 := ⟨rfl, rfl, by decide +kernel, tyX1_ok, nmX1, by decide⟩
theorem cf2 : CF 2 RX2 TX2 2 tyX2 := ⟨rfl, rfl, by decide +kernel, tyX2_ok, nmX2, by decide⟩
theorem cf3 : CF 3 RX3 TX3 2 tyX3 := ⟨rfl, rfl, by decide +kernel, tyX3_ok, nmX3, by decide⟩
theorem cf4 : CF 4 RX4 TX4 9 tyX4 := ⟨rfl, rfl, by decide +kernel, tyX4_ok, nmX4, by decide⟩
theorem cf5 : CF 5 RX5 TX5 8 tyX5 := ⟨rfl, rfl, by decide +kernel, tyX5_ok, nmX5, by decide⟩
theorem cf6 : CF 6 RX6 TX6 11 tyX6 := ⟨rfl, rfl, by decide +kernel, tyX6_ok, nmX6, by decide⟩
end
section
/-! Answers, calls, throws; what is made; the tables. -/
section RA
variable {g : GG} {l : Launch} {u : MU} {Q : FQ} {pc : Nat} {lv : List (Nat × Value)} {st : List Value} {k n : Nat} {S : Mem}
theorem rQ_of {A : Nat → Prop} {H : Heap} {locs : List Loc} {s : State} {v : Option Value} {mc : Nat} {f : Bool} {args : Array Value} (hW : okW g A S H s mc f) (hS : va_S A s.heap H locs) (t : State) (ht : t.heap = H) : rQ g A (.inl v) S mc f args s (.returned v) t :=
  ⟨rfl, by rw [ht]; exact hW, hS.F ht⟩
theorem xk_mc {f : Bool} {s : State} {k mc : Nat} (h : xk f s k S) (hk : f = true → k = mc) : xk f s mc S := by
  cases f with
  | false => exact ⟨h.1, fun q => by cases q⟩
  | true =>
    rw [← hk rfl]
    exact h
theorem r_ireturn {v : Int32} {ty : FieldType} (hd : decode (uC u) pc = .ok (.ireturn, 1)) (hr : uT u = some ty) (hn : narrow ty (.int v) = .int v) (hk : (uF u = true → k = (uR u).cells) ∧ k ≤ (uR u).cells) (hs : n ≤ (uR u).slots) : Run g l u (fin g u (.inl (some (.int v))) S) pc lv [.int v] k n S := by
  intro p e s m args below meth c A H locs ls C hW hS hl
  refine vx_ret (W.widen hk.2 hs ?_)
  exact W.zret C.1 C.2.1 (C.2.2.1.trans hr) hn (fun t ht _ => rQ_of ⟨hW.1, hW.2.1, xk_mc hW.2.2 hk.1⟩ hS t ht) hS.2.2 hd C.2.2.2.2.2.1
theorem r_return (hd : decode (uC u) pc = .ok (.return_, 1)) (hr : uT u = none) (hk : (uF u = true → k = (uR u).cells) ∧ k ≤ (uR u).cells) (hs : n ≤ (uR u).slots) : Run g l u (fin g u (.inl none) S) pc lv [] k n S := by
  intro p e s m args below meth c A H locs ls C hW hS hl
  refine vx_ret (W.widen hk.2 hs ?_)
  exact W.vret C.1 C.2.1 (C.2.2.1.trans hr) (fun t ht _ => rQ_of ⟨hW.1, hW.2.1, xk_mc hW.2.2 hk.1⟩ hS t ht) hS.2.2 hd C.2.2.2.2.2.1
theorem r_freturn {v : UInt32} (hd : decode (uC u) pc = .ok (.freturn, 1)) (hr : uT u = some .float) (hk : (uF u = true → k = (uR u).cells) ∧ k ≤ (uR u).cells) (hs : n ≤ (uR u).slots) : Run g l u (fin g u (.inl (some (.float v))) S) pc lv [.float v] k n S := by
  intro p e s m args below meth c A H locs ls C hW hS hl
  refine vx_ret (W.widen hk.2 hs ?_)
  exact W.fret C.1 C.2.1 (C.2.2.1.trans hr) (fun t ht _ => rQ_of ⟨hW.1, hW.2.1, xk_mc hW.2.2 hk.1⟩ hS t ht) hS.2.2 hd C.2.2.2.2.2.1
theorem r_areturn {b : Nat} {nm : String} (hd : decode (uC u) pc = .ok (.areturn, 1)) (hr : uT u = some (.object nm)) (hk : (uF u = true → k = (uR u).cells) ∧ k ≤ (uR u).cells) (hs : n ≤ (uR u).slots) : Run g l u (fin g u (.inl (some (.ref b))) S) pc lv [.ref b] k n S := by
  intro p e s m args below meth c A H locs ls C hW hS hl
  refine vx_ret (W.widen hk.2 hs ?_)
  exact W.aret C.1 C.2.1 (C.2.2.1.trans hr) (Or.inl ⟨_, rfl⟩) (Or.inr ⟨_, rfl⟩) (fun t ht _ => rQ_of ⟨hW.1, hW.2.1, xk_mc hW.2.2 hk.1⟩ hS t ht) hS.2.2 hd C.2.2.2.2.2.1
end RA
/-! contracts -/
def cP (g : GG) (av : List Value) (S : Mem) (sz : Nat) (f : Bool) : Array Value → State → Prop := fun v U =>
  v = av.toArray ∧ U.heap.size = sz ∧ va_P g.1 vwCl (mW g S) U.heap ∧ va_D (fun _ => True) (mW g S) ∧ Gd g (va_A (mW g S) sz) U U.heap ∧ xk f U 0 S
/-- the method, called with av over S, ends with r over S' -/
def Call (g : GG) (l : Launch) (u : MU) (av : List Value) (S : Mem) (r : Option Value ⊕ String) (S' : Mem) : Prop :=
  ∀ sz, vx_Met l (uY u) [.code (uY u) (uC u) (uN u) (uT u)] (uR u) (cP g av S sz (uF u)) (rQ g (va_A (mW g S) sz) r S' (uR u).cells (uF u)) (rX g (va_A (mW g S) sz) r S' (uR u).cells (uF u)) (uR u).cells (uR u).slots (va_A (mW g S) sz)
/-- .. a method with a table of handlers -/
def CallT (g : GG) (l : Launch) (u : MU) (av : List Value) (S : Mem) (r : Option Value ⊕ String) (S' : Mem) : Prop :=
  ∀ sz, vx_Met l (uY u) [.codeWith (uY u) (uC u) (uN u) (uT u) (uH u)] (uR u) (cP g av S sz (uF u)) (rQ g (va_A (mW g S) sz) r S' (uR u).cells (uF u)) (rX g (va_A (mW g S) sz) r S' (uR u).cells (uF u)) (uR u).cells (uR u).slots (va_A (mW g S) sz)
theorem call_of {g : GG} {l : Launch} {u : MU} {av : List Value} {S S' : Mem} {r : Option Value ⊕ String} (hy : plainName (uY u).cls = true) (hst : l.stackTraces = false) (hH : uH u = []) (hn : (lg_sl av).length ≤ uN u) (h : Run g l u (fin g u r S') 0 (lv_args 0 av) [] 0 0 S) : Call g l u av S r S' := by
  intro sz
  refine vx_ofW (cc := uC u) (maxL := uN u) (ret := uT u) hy rfl ?_
  intro p e s m args below meth c s₁ B hml htb hv
  obtain ⟨rfl, rfl, hP, hD0, hG, hX⟩ := hv
  have hl := lv_entry av (n := uN u) hn
  rw [lg_entry_eq]
  have ht : c.exceptionTable.toList = [] := by
    cases hc : c.exceptionTable.toList with
    | nil => rfl
    | cons x r => exact (htb x (by rw [hc]; exact List.mem_cons_self)).elim
  exact h p e s m _ below meth c _ s.heap [] _ ⟨B.exec, B.bytes, B.returns, hml, findClass_of_methodNamed B.named, B.notSynchronized, (name_of_methodNamed B.named B.method).1, hst, hG, fun q hq => Or.inr hq, by rw [hH, ht]; rfl⟩ ⟨hP, hD0.self, hX⟩ va_S.rf hl
theorem callT_of {g : GG} {l : Launch} {u : MU} {av : List Value} {S S' : Mem} {r : Option Value ⊕ String} (hy : plainName (uY u).cls = true) (hst : l.stackTraces = false) (hn : (lg_sl av).length ≤ uN u) (h : Run g l u (fin g u r S') 0 (lv_args 0 av) [] 0 0 S) : CallT g l u av S r S' := by
  intro sz
  refine vx_ofWH (cc := uC u) (maxL := uN u) (ret := uT u) (hh := uH u) hy rfl ?_
  intro p e s m args below meth c s₁ B hml hv
  obtain ⟨rfl, rfl, hP, hD0, hG, hX⟩ := hv
  have hl := lv_entry av (n := uN u) hn
  rw [lg_entry_eq]
  exact h p e s m _ below meth c _ s.heap [] _ ⟨B.exec, B.bytes, B.returns, hml, findClass_of_methodNamed B.named, B.notSynchronized, (name_of_methodNamed B.named B.method).1, hst, hG, fun q hq => Or.inr hq, vx_table (x := uY u) B (atoms_spec (ws := [.codeWith (uY u) (uC u) (uN u) (uT u) (uH u)]) B.pre _ List.mem_cons_self)⟩ ⟨hP, hD0.self, hX⟩ va_S.rf hl

theorem met_of {g : GG} {l : Launch} {u : MU} {av : List Value} {S S' : Mem} {v : Option Value} (h : Call g l u av S (.inl v) S') (sz : Nat) : Met l (uY u) [.code (uY u) (uC u) (uN u) (uT u)] (uR u) (cP g av S sz (uF u)) (rQ g (va_A (mW g S) sz) (.inl v) S' (uR u).cells (uF u)) (uR u).cells (uR u).slots (va_A (mW g S) sz) := by
  intro p e ha hc hk s m args below hf happ hP hK
  obtain ⟨n, o, h1, h2, h3, hQ⟩ := h sz p e ha hc hk s m args below hf happ hP hK
  refine ⟨n, o, h1, h2, h3, ?_⟩
  rcases hQ with hQ | ⟨q, hq, E, ce, L, hx, -⟩
  · exact hQ
  · exact hx.elim
theorem cP_blind {g : GG} {av : List Value} {S : Mem} {sz : Nat} {f : Bool} : FrameBlind (cP g av S sz f) := by
  intro a U g' mk h
  obtain ⟨h1, h2, h3, h4, h5, h6⟩ := h
  exact ⟨h1, h2, h3, h4, Gd_warm (s := U) (U := U.calling g' mk a) (State.WarmedH.refl U) h5, h6⟩
section RC
variable {g : GG} {l : Launch} {u u2 : MU} {Q : FQ} {pc : Nat} {lv : List (Nat × Value)} {st : List Value} {k n : Nat} {S S1 : Mem}
variable {p : Program} {e : Env} {s : State} {m : MethodId} {args : Array Value} {below : List Frame} {meth : Method} {c : Code} {A : Nat → Prop} {H : Heap} {locs : List Loc} {T : State} {R : Room}
theorem free_in (hW : okW g A S H s k (uF u)) (hS : va_S A s.heap H locs) (hA : ∀ q, s.heap.size ≤ q → A q) : ∀ q, va_A (mW g S) H.size q → A q := by
  rintro q (⟨i, ce, hi⟩ | hq)
  · exact hW.2.1.2 i _ hi
  · exact hA q (Nat.le_trans hS.1 hq)
theorem size_of (X : Stand p l e R s m args below meth c T locs k n) (hT : T.heap = H) (hW : okW g A S H s k true) (hS : va_S A s.heap H locs) : H.size = mX S := by
  have h1 := X.heapSize
  rw [hT] at h1
  obtain ⟨h2, h3⟩ := hW.2.2.2 rfl
  have h4 := hS.1
  rcases h3 with h3 | h3
  · omega
  · obtain ⟨q, hq⟩ := mW_get g h3
    have := (hW.1 q _ hq).lt
    dsimp only at this
    omega
theorem pre_of (C : Cx g l u p s m args meth c A) (hW : okW g A S H s k (uF u)) (hS : va_S A s.heap H locs) (hf : uF u2 = uF u) (hz : uF u = true → H.size = mX S) (av : List Value) : ∀ U : State, U.heap = H → s.WarmedH U.vm → cP g av S H.size (uF u2) av.toArray U := by
  intro U hU hWm
  have hA := C.2.2.2.2.2.2.2.2.2.1
  refine ⟨rfl, by rw [hU], by rw [hU]; exact hW.1, hW.2.1.weaken (fun _ _ _ _ => trivial), ?_, ?_, ?_⟩
  · rw [hU]
    exact Gd_narrow (Gd_kept (Gd_warm hWm C.2.2.2.2.2.2.2.2.1) hS.2.1) (free_in hW hS hA)
  · intro q
    rw [hf] at q
    exact hW.2.2.1 q
  · intro q
    rw [hf] at q
    refine ⟨?_, Or.inl rfl⟩
    rw [hU, hz q]
    rfl
theorem after_call (hf : uF u2 = uF u) (hm : uF u2 = true → 0 < (uR u2).cells) (hz : uF u = true → H.size = mX S) (hW : okW g A S H s k (uF u)) (hS : va_S A s.heap H locs) (hA : ∀ q, s.heap.size ≤ q → A q) {st₀ t : State} (h0 : st₀.heap = H)
    (hq : okW g (va_A (mW g S) H.size) S1 t.heap st₀ (uR u2).cells (uF u2)) : okW g A S1 t.heap s (k + (uR u2).cells) (uF u) := by
  refine ⟨hq.1, hq.2.1.weaken (fun _ _ _ h => free_in hW hS hA _ h), ?_, ?_⟩
  · intro q
    rw [← hf] at q
    exact hq.2.2.1 q
  · intro q
    have hz' := hz q
    have h1 := (hW.2.2.2 q).1
    rw [← hf] at q
    obtain ⟨h2, h3⟩ := hq.2.2.2 q
    rw [h0] at h2
    refine ⟨by omega, Or.inr ?_⟩
    rcases h3 with h3 | h3
    · have := hm q; omega
    · exact h3
/-- entry idx of own's pool is the method u2, of np parameters -/
def LK (own : String) (idx : Nat) (u2 : MU) (np : Nat) : Prop :=
  Cond.methodLink own idx (uY u2) ∈ lw_tbl ∧ Cond.initialized (uY u2).cls ∈ lw_tbl ∧ ((uY u2).cls ≠ "java/lang/invoke/MethodHandle" ∧ (uY u2).cls ≠ "java/lang/invoke/VarHandle") ∧ (parseMethodDescriptor (uY u2).desc).map (fun d => d.parameters.length) = some np ∧ Cond.code (uY u2) (uC u2) (uN u2) (uT u2) ∈ lw_tbl
def LV (own : String) (idx : Nat) (u2 : MU) (np : Nat) (ci : Nat) : Prop :=
  LK own idx u2 np ∧ Cond.instanceMethod (uY u2) ∈ lw_tbl ∧ Cond.selects (uY u2).cls (uY u2) (uY u2) ∈ lw_tbl ∧ ci < 7 ∧ ∃ T N, vwCl[ci]? = some ((uY u2).cls, T, N)
def LSt (own : String) (idx : Nat) (u2 : MU) (np : Nat) : Prop := LK own idx u2 np ∧ Cond.static (uY u2) ∈ lw_tbl
def LI (own : String) (idx : Nat) (u2 : MU) (np : Nat) : Prop := LK own idx u2 np ∧ (uY u2).name = "<init>" ∧ uT u2 = none ∧ Cond.instanceMethod (uY u2) ∈ lw_tbl
def LN (own : String) (idx : Nat) (u2 : MU) (np : Nat) : Prop :=
  ∃ host : String, Cond.methodLinkNest own idx (uY u2) host ∈ lw_tbl ∧ Cond.initialized (uY u2).cls ∈ lw_tbl ∧ ((uY u2).cls ≠ "java/lang/invoke/MethodHandle" ∧ (uY u2).cls ≠ "java/lang/invoke/VarHandle") ∧ (parseMethodDescriptor (uY u2).desc).map (fun d => d.parameters.length) = some np ∧ Cond.code (uY u2) (uC u2) (uN u2) (uT u2) ∈ lw_tbl ∧ Cond.static (uY u2) ∈ lw_tbl
/-- the callee's room is in the caller's -/
def RM (u u2 : MU) (k n : Nat) : Prop := (uR u2).frames + 1 ≤ (uR u).frames ∧ 8 + (uN u2 + 11) + (uR u2).locals ≤ (uR u).locals ∧ k + (uR u2).cells ≤ (uR u).cells ∧ n + (uR u2).slots ≤ (uR u).slots ∧ uF u2 = uF u ∧ (uF u2 = true → 0 < (uR u2).cells)
theorem callB (C : Cx g l u p s m args meth c A) {idx np : Nat} (h : LK (uY u).cls idx u2 np) (hr : RM u u2 k n) : CallB (uR u) s args (uY u).cls idx (uY u2) (uC u2) (uN u2) (uT u2) [.code (uY u2) (uC u2) (uN u2) (uT u2)] (uR u2) (uR u2).cells (uR u2).slots np := by
  obtain ⟨h1, h2, h3, h4, h5⟩ := h
  obtain ⟨r1, r2, r3, r4, -⟩ := hr
  refine ⟨rfl, rfl, r1, r2, ?_, List.mem_cons_self, Cx_w C h5 rfl, Cx_w C h2 rfl, h3, ?_, Cx_w C h1 rfl⟩
  · intro w hw a' U hWm
    rw [List.mem_singleton.mp hw]
    exact gw_warm (w := Cond.code (uY u2) (uC u2) (uN u2) (uT u2)) rfl hWm (C.2.2.2.2.2.2.2.2.1.1 _ h5 rfl) a'
  · intro sig hs
    rw [hs] at h4
    exact (Option.some.inj h4).symm
theorem rcv_of (C : Cx g l u p s m args meth c A) (hW : okW g A S H s k (uF u)) {idx np ci b : Nat} (h : LV (uY u).cls idx u2 np ci) (ho : ok S b ci) : ∃ cell : Cell, H[b]? = some cell ∧ cell.vm.isStatics = false ∧ s.vm.findClass (uY u2).cls = some cell.cls := by
  obtain ⟨-, -, -, hci, T, N, hc⟩ := h
  obtain ⟨q, hq⟩ := mW_get g ho.1
  rw [mCell_o ho.2 hci] at hq
  exact va_recv C.2.2.2.2.2.2.2.2.1.2.2.1 hW.1 hc hq
theorem r_invV {idx np ci b : Nat} {As st0 : List Value} {v : Option Value} (hd : decode (uC u) pc = .ok (.invokevirtual idx, 3)) (hlk : LV (uY u).cls idx u2 np ci) (hr : RM u u2 k n) (hst : (st.map fun v => v.category).sum ≤ 8) (hnp : As.length = np) (h0 : st0 = As.reverse ++ .ref b :: st) (ho : ok S b ci)
    (hc : Call g l u2 (.ref b :: As) S (.inl v) S1) (h : Run g l u Q (pc + 3) lv (v.toList ++ st) (k + (uR u2).cells) (n + (uR u2).slots) S1) : Run g l u Q pc lv st0 k n S := by
  subst h0
  intro p e s m args below meth c A H locs ls C hW hS hl T hT X
  have hz : uF u = true → H.size = mX S := fun q => size_of X hT (by rw [← q]; exact hW) hS
  have hA := C.2.2.2.2.2.2.2.2.2.1
  have hrun := vx_runV (Ts := []) (e := e) (below := below) (meth := meth) (H := H) (locs := locs) (cells := k) (slots := n) (g := F0 m pc ls (As.reverse ++ .ref b :: st)) (rest := st) ⟨C.1, C.2.1, C.2.2.2.1, C.2.2.2.2.1, fun w hw => nomatch hw⟩ (hc H.size) ⟨callB C hlk.1 hr, Cx_w C hlk.2.1 rfl, Cx_w C hlk.2.2.1 rfl⟩ ⟨cP_blind, rcv_of C hW hlk ho, pre_of C hW hS hr.2.2.2.2.1 hz (.ref b :: As)⟩ rfl hnp hl.1 rfl (lv_room hst) hd ⟨hr.2.2.1, hr.2.2.2.1⟩
  rcases hrun T hT X with ⟨v', st₀, t, T', L, h0, X', hL, e1, e2, hq, stp⟩ | ⟨q, st₀, t, T', L, E, ce, h0, X', hL, e1, e2, hx, -⟩
  · obtain ⟨hv, hq, hF⟩ := hq
    cases hv
    obtain ⟨-, -, k3⟩ := vx_keep h0 e1 hS (fun q _ hq => free_in hW hS hA q hq) (free_in hW hS hA) hL hF
    have hok := after_call hr.2.2.2.2.1 hr.2.2.2.2.2 hz hW hS hA h0 hq
    rw [← e1] at hok
    obtain ⟨t2, a1, b1⟩ := h p e s m args below meth c A T'.heap (locs ++ L) ls C hok k3 hl T' rfl X'
    exact ⟨t2, stp t2 a1, b1⟩
  · exact hx.elim
theorem r_invS {idx np : Nat} {As st0 : List Value} {v : Option Value} (hd : decode (uC u) pc = .ok (.invokestatic idx, 3)) (hlk : LSt (uY u).cls idx u2 np) (hr : RM u u2 k n) (hst : (st.map fun v => v.category).sum ≤ 8) (hnp : As.length = np) (h0 : st0 = As.reverse ++ st)
    (hc : Call g l u2 As S (.inl v) S1) (h : Run g l u Q (pc + 3) lv (v.toList ++ st) (k + (uR u2).cells) (n + (uR u2).slots) S1) : Run g l u Q pc lv st0 k n S := by
  subst h0
  intro p e s m args below meth c A H locs ls C hW hS hl T hT X
  have hz : uF u = true → H.size = mX S := fun q => size_of X hT (by rw [← q]; exact hW) hS
  have hA := C.2.2.2.2.2.2.2.2.2.1
  have hrun := vx_runS (Ts := []) (e := e) (below := below) (meth := meth) (H := H) (locs := locs) (cells := k) (slots := n) (g := F0 m pc ls (As.reverse ++ st)) (rest := st) ⟨C.1, C.2.1, C.2.2.2.1, C.2.2.2.2.1, fun w hw => nomatch hw⟩ (hc H.size) ⟨callB C hlk.1 hr, Cx_w C hlk.2 rfl⟩ ⟨cP_blind, pre_of C hW hS hr.2.2.2.2.1 hz As⟩ rfl hnp hl.1 rfl (lv_room hst) hd ⟨hr.2.2.1, hr.2.2.2.1⟩
  rcases hrun T hT X with ⟨v', st₀, t, T', L, h0, X', hL, e1, e2, hq, stp⟩ | ⟨q, st₀, t, T', L, E, ce, h0, X', hL, e1, e2, hx, -⟩
  · obtain ⟨hv, hq, hF⟩ := hq
    cases hv
    obtain ⟨-, -, k3⟩ := vx_keep h0 e1 hS (fun q _ hq => free_in hW hS hA q hq) (free_in hW hS hA) hL hF
    have hok := after_call hr.2.2.2.2.1 hr.2.2.2.2.2 hz hW hS hA h0 hq
    rw [← e1] at hok
    obtain ⟨t2, a1, b1⟩ := h p e s m args below meth c A T'.heap (locs ++ L) ls C hok k3 hl T' rfl X'
    exact ⟨t2, stp t2 a1, b1⟩
  · exact hx.elim
theorem r_invI {idx np b : Nat} {As st0 : List Value} (hd : decode (uC u) pc = .ok (.invokespecial idx, 3)) (hlk : LI (uY u).cls idx u2 np) (hr : RM u u2 k n) (hst : (st.map fun v => v.category).sum ≤ 8) (hnp : As.length = np) (h0 : st0 = As.reverse ++ .ref b :: st)
    (hc : Call g l u2 (.ref b :: As) S (.inl none) S1) (h : Run g l u Q (pc + 3) lv st (k + (uR u2).cells) (n + (uR u2).slots) S1) : Run g l u Q pc lv st0 k n S := by
  subst h0
  intro p e s m args below meth c A H locs ls C hW hS hl T hT X
  have hz : uF u = true → H.size = mX S := fun q => size_of X hT (by rw [← q]; exact hW) hS
  have hA := C.2.2.2.2.2.2.2.2.2.1
  have hcb := callB C hlk.1 hr
  have hmet := met_of hc H.size
  rw [hlk.2.2.1] at hcb hmet
  have hrun := va_runI (Ts := []) (e := e) (below := below) (meth := meth) (H := H) (locs := locs) (cells := k) (slots := n) (g := F0 m pc ls (As.reverse ++ .ref b :: st)) (rest := st) ⟨C.1, C.2.1, C.2.2.2.1, C.2.2.2.2.1, fun w hw => nomatch hw⟩ hmet ⟨hcb, hlk.2.1, Cx_w C hlk.2.2.2 rfl⟩ ⟨cP_blind, pre_of C hW hS hr.2.2.2.2.1 hz (.ref b :: As)⟩ rfl hnp hl.1 rfl (lv_room hst) hd ⟨hr.2.2.1, hr.2.2.2.1⟩
  obtain ⟨v', st₀, t, T', L, h0, X', hL, e1, e2, hq, stp⟩ := hrun T hT X
  obtain ⟨hv, hq, hF⟩ := hq
  cases hv
  obtain ⟨-, -, k3⟩ := vx_keep h0 e1 hS (fun q _ hq => free_in hW hS hA q hq) (free_in hW hS hA) hL hF
  have hok := after_call hr.2.2.2.2.1 hr.2.2.2.2.2 hz hW hS hA h0 hq
  rw [← e1] at hok
  obtain ⟨t2, a1, b1⟩ := h p e s m args below meth c A T'.heap (locs ++ L) ls C hok k3 hl T' rfl X'
  exact ⟨t2, stp t2 a1, b1⟩
theorem r_invN {idx np : Nat} {As st0 : List Value} {v : Option Value} (hd : decode (uC u) pc = .ok (.invokestatic idx, 3)) (hlk : LN (uY u).cls idx u2 np) (hr : RM u u2 k n) (hst : (st.map fun v => v.category).sum ≤ 8) (hnp : As.length = np) (h0 : st0 = As.reverse ++ st)
    (hc : Call g l u2 As S (.inl v) S1) (h : Run g l u Q (pc + 3) lv (v.toList ++ st) (k + (uR u2).cells) (n + (uR u2).slots) S1) : Run g l u Q pc lv st0 k n S := by
  subst h0
  intro p e s m args below meth c A H locs ls C hW hS hl T hT X
  have hz : uF u = true → H.size = mX S := fun q => size_of X hT (by rw [← q]; exact hW) hS
  have hA := C.2.2.2.2.2.2.2.2.2.1
  obtain ⟨host, h1, h2, h3, h4, h5, h6⟩ := hlk
  have hrun := va_runSN (Ts := []) (e := e) (below := below) (meth := meth) (H := H) (locs := locs) (cells := k) (slots := n) (g := F0 m pc ls (As.reverse ++ st)) (rest := st) (n := np) ⟨C.1, C.2.1, C.2.2.2.1, C.2.2.2.2.1, fun w hw => nomatch hw⟩ (met_of hc H.size)
    ⟨⟨⟨rfl, rfl, hr.1, hr.2.1, fun w hw a' U hWm => by
        rw [List.mem_singleton.mp hw]
        exact gw_warm (w := Cond.code (uY u2) (uC u2) (uN u2) (uT u2)) rfl hWm (C.2.2.2.2.2.2.2.2.1.1 _ h5 rfl) a', List.mem_cons_self⟩, Cx_w C h5 rfl, Cx_w C h2 rfl, h3, fun sig hs => by
        rw [hs] at h4
        exact (Option.some.inj h4).symm, Cx_w C h1 rfl⟩, Cx_w C h6 rfl, trivial⟩ ⟨cP_blind, pre_of C hW hS hr.2.2.2.2.1 hz As⟩ rfl hnp hl.1 rfl (lv_room hst) hd ⟨hr.2.2.1, hr.2.2.2.1⟩
  obtain ⟨v', st₀, t, T', L, h0, X', hL, e1, e2, hq, stp⟩ := hrun T hT X
  obtain ⟨hv, hq, hF⟩ := hq
  cases hv
  obtain ⟨-, -, k3⟩ := vx_keep h0 e1 hS (fun q _ hq => free_in hW hS hA q hq) (free_in hW hS hA) hL hF
  have hok := after_call hr.2.2.2.2.1 hr.2.2.2.2.2 hz hW hS hA h0 hq
  rw [← e1] at hok
  obtain ⟨t2, a1, b1⟩ := h p e s m args below meth c A T'.heap (locs ++ L) ls C hok k3 hl T' rfl X'
  exact ⟨t2, stp t2 a1, b1⟩
end RC
end
section
/-! Throws and their catching; tables; what is made; arraycopy; Math. -/
def exN : List String := ["java/lang/RuntimeException", "java/lang/Exception"]
theorem gw_ot {w : Cond} (h : gw w = true) : vx_ot w = true := by
  rcases Bool.or_eq_true_iff.mp h with h1 | h1
  · simp [vx_ot, h1]
  · cases w <;> first | (simp [nestWord] at h1; done) | rfl
/-- what the tables say of 'throw new E(text)' -/
def TW (ik ic : Nat) (cls : String) : Prop := Bundle.fit cls = true ∧ Cond.classLink RX5 ik cls ∈ lw_tbl ∧ Cond.initialized cls ∈ lw_tbl ∧ ∀ w ∈ vx_atS RX5 ic cls exN, w ∈ lw_tbl ∧ gw w = true
section RX
variable {g : GG} {l : Launch} {u u2 : MU} {Q : FQ} {pc : Nat} {lv : List (Nat × Value)} {st : List Value} {k n : Nat} {S S1 : Mem}
theorem exN_fit : ∀ x ∈ exN, Bundle.fit x = true := by decide +kernel
theorem thrown_ok {A : Nat → Prop} {H : Heap} {locs : List Loc} {s : State} {cls : String} {mc : Nat} (hf : uF u = false) (hW : okW g A S H s k (uF u)) (hS : va_S A s.heap H locs) (t : State) (h1 : H.size ≤ t.heap.size) (h2 : ∀ q : Nat, q < H.size → t.heap[q]? = H[q]?) : rX g A (.inr cls) S mc (uF u) cls s t := by
  refine ⟨rfl, ⟨hW.1.kept (fun i x hx => h2 x.1 (hW.1 i x hx).lt), hW.2.1, hW.2.2.1, fun q => absurd (hf.symm.trans q) (by decide)⟩, Nat.le_trans hS.1 h1, fun q hq hn => ?_⟩
  rw [h2 q (Nat.lt_of_lt_of_le hq hS.1)]
  exact hS.2.1 q hq hn
theorem r_throwS {cls text : String} {ik is ic : Nat} (hw : TW ik ic cls) (hown : (uY u).cls = RX5) (hstr : (is, text) ∈ strT)
    (d0 : decode (uC u) pc = .ok (.new ik, 3)) (d3 : decode (uC u) (pc + 3) = .ok (.dup, 1)) (d4 : decode (uC u) (pc + 4) = .ok (.ldc is, 2)) (d6 : decode (uC u) (pc + 6) = .ok (.invokespecial ic, 3)) (d9 : decode (uC u) (pc + 9) = .ok (.athrow, 1))
    (hH : uH u = []) (hf : uF u = false) (hRf : 5 < (uR u).frames) (hRl : (st.map fun v => v.category).sum + 82 ≤ (uR u).locals) (hc : k + 1 ≤ (uR u).cells) (hs : n + 6 ≤ (uR u).slots) : Run g l u (fin g u (.inr cls) S) pc lv st k n S := by
  intro p e s m args below meth c A H locs ls C hW hS hl
  obtain ⟨t1, t2, t3, t4⟩ := hw
  have hG := C.2.2.2.2.2.2.2.2.1
  obtain ⟨sa, hsa⟩ := hG.2.1 _ hstr
  have hown' : s.vm.findClass RX5 = some m.cls := by rw [← hown]; exact C.2.2.2.2.1
  refine vx_throwS (names := exN) (sa := sa) (ik := ik) (is := is) (ic := ic) (text := text) (A := A) C.1 C.2.1 C.2.2.2.2.2.2.2.1 hown' t1 exN_fit (Cx_w C t2 rfl) (Cx_w C t3 rfl) hsa (fun w hw => Cx_w C (t4 w hw).1 (t4 w hw).2) ?_ hG.2.2.2.1.1 hG.2.2.2.1.2 hS (by rw [hl.1]; exact C.2.2.2.1.symm) d0 d3 d4 d6 d9 ?_ hRf hRl hc hs C.2.2.2.2.2.1 (fun t _ h1 h2 => thrown_ok hf hW hS t h1 h2) hS.2.2 hc hs
  · intro w hw
    rcases List.mem_cons.mp hw with rfl | hw
    · rfl
    · rcases List.mem_cons.mp hw with rfl | hw
      · rfl
      · exact gw_ot (t4 w hw).2
  · intro x hx
    rw [C.2.2.2.2.2.2.2.2.2.2, hH] at hx
    cases hx
theorem r_throwSW {cls text : String} {ik is ic : Nat} (hw : TW ik ic cls) (hown : (uY u).cls = RX5) (hstr : (is, text) ∈ strT)
    (d0 : decode (uC u) pc = .ok (.new ik, 3)) (d3 : decode (uC u) (pc + 3) = .ok (.dup, 1)) (d4 : decode (uC u) (pc + 4) = .ok (.ldc_w is, 3)) (d7 : decode (uC u) (pc + 7) = .ok (.invokespecial ic, 3)) (d10 : decode (uC u) (pc + 10) = .ok (.athrow, 1))
    (hH : uH u = []) (hf : uF u = false) (hRf : 5 < (uR u).frames) (hRl : (st.map fun v => v.category).sum + 82 ≤ (uR u).locals) (hc : k + 1 ≤ (uR u).cells) (hs : n + 6 ≤ (uR u).slots) : Run g l u (fin g u (.inr cls) S) pc lv st k n S := by
  intro p e s m args below meth c A H locs ls C hW hS hl
  obtain ⟨t1, t2, t3, t4⟩ := hw
  have hG := C.2.2.2.2.2.2.2.2.1
  obtain ⟨sa, hsa⟩ := hG.2.1 _ hstr
  have hown' : s.vm.findClass RX5 = some m.cls := by rw [← hown]; exact C.2.2.2.2.1
  refine vx_throwSW (names := exN) (sa := sa) (ik := ik) (is := is) (ic := ic) (text := text) (A := A) C.1 C.2.1 C.2.2.2.2.2.2.2.1 hown' t1 exN_fit (Cx_w C t2 rfl) (Cx_w C t3 rfl) hsa (fun w hw => Cx_w C (t4 w hw).1 (t4 w hw).2) ?_ hG.2.2.2.1.1 hG.2.2.2.1.2 hS (by rw [hl.1]; exact C.2.2.2.1.symm) d0 d3 d4 d7 d10 ?_ hRf hRl hc hs C.2.2.2.2.2.1 (fun t _ h1 h2 => thrown_ok hf hW hS t h1 h2) hS.2.2 hc hs
  · intro w hw
    rcases List.mem_cons.mp hw with rfl | hw
    · rfl
    · rcases List.mem_cons.mp hw with rfl | hw
      · rfl
      · exact gw_ot (t4 w hw).2
  · intro x hx
    rw [C.2.2.2.2.2.2.2.2.2.2, hH] at hx
    cases hx
/-- what is thrown by the callee goes on to the caller -/
theorem r_invV_x {idx np ci b : Nat} {As st0 : List Value} {E : String} (hd : decode (uC u) pc = .ok (.invokevirtual idx, 3)) (hlk : LV (uY u).cls idx u2 np ci) (hr : RM u u2 k n) (hst : (st.map fun v => v.category).sum ≤ 8) (hnp : As.length = np) (h0 : st0 = As.reverse ++ .ref b :: st) (ho : ok S b ci)
    (hH : uH u = []) (hf : uF u = false) (hc : Call g l u2 (.ref b :: As) S (.inr E) S1) : Run g l u (fin g u (.inr E) S1) pc lv st0 k n S := by
  subst h0
  intro p e s m args below meth c A H locs ls C hW hS hl T hT X
  have hz : uF u = true → H.size = mX S := fun q => absurd (hf.symm.trans q) (by decide)
  have hA := C.2.2.2.2.2.2.2.2.2.1
  have hrun := vx_runV (Ts := []) (e := e) (below := below) (meth := meth) (H := H) (locs := locs) (cells := k) (slots := n) (g := F0 m pc ls (As.reverse ++ .ref b :: st)) (rest := st) ⟨C.1, C.2.1, C.2.2.2.1, C.2.2.2.2.1, fun w hw => nomatch hw⟩ (hc H.size) ⟨callB C hlk.1 hr, Cx_w C hlk.2.1 rfl, Cx_w C hlk.2.2.1 rfl⟩ ⟨cP_blind, rcv_of C hW hlk ho, pre_of C hW hS hr.2.2.2.2.1 hz (.ref b :: As)⟩ rfl hnp hl.1 rfl (lv_room hst) hd ⟨hr.2.2.1, hr.2.2.2.1⟩
  rcases hrun T hT X with ⟨v', st₀, t, T', L, h0, X', hL, e1, e2, hq, stp⟩ | ⟨q, st₀, t, T', L, E', ce, h0, X', hL, e1, e2, hx, hce, hcv, hcl, stp⟩
  · exact hq.elim
  · obtain ⟨rfl, hq, hF⟩ := hx
    obtain ⟨-, -, k3⟩ := vx_keep h0 e1 hS (fun q _ hq => free_in hW hS hA q hq) (free_in hW hS hA) hL hF
    have hok := after_call hr.2.2.2.2.1 hr.2.2.2.2.2 hz hW hS hA h0 hq
    rw [← e1] at hok
    have hout := vx_out (Qc := rQ g A (.inr E') S1 (uR u).cells (uF u)) (XC := rX g A (.inr E') S1 (uR u).cells (uF u)) (free := A) (ls := ls) (rest := st) (pc := pc) (e := e) (below := below) (args := args) (R := uR u) (l := l) (p := p) (locs := locs ++ L) (cells := k + (uR u2).cells) (slots := n + (uR u2).slots) (H := T'.heap) (m := m) (meth := meth) (c := c) (s := s) (mc := (uR u).cells) (ms := (uR u).slots)
      (fun x hx => by rw [C.2.2.2.2.2.2.2.2.2.2, hH] at hx; cases hx) C.2.2.2.2.2.1 (by rw [e1]; exact hce) hcv hcl (fun t2 ht2 _ => ⟨rfl, by rw [ht2]; exact ⟨hok.1, hok.2.1, hok.2.2.1, fun q => absurd (hf.symm.trans q) (by decide)⟩, k3.F ht2⟩) k3.2.2 hr.2.2.1 hr.2.2.2.1
    obtain ⟨t2, a1, b1⟩ := hout T' rfl X'
    exact ⟨t2, stp.trans a1, b1⟩
theorem r_invS_x {idx np : Nat} {As st0 : List Value} {E : String} (hd : decode (uC u) pc = .ok (.invokestatic idx, 3)) (hlk : LSt (uY u).cls idx u2 np) (hr : RM u u2 k n) (hst : (st.map fun v => v.category).sum ≤ 8) (hnp : As.length = np) (h0 : st0 = As.reverse ++ st)
    (hH : uH u = []) (hf : uF u = false) (hc : Call g l u2 As S (.inr E) S1) : Run g l u (fin g u (.inr E) S1) pc lv st0 k n S := by
  subst h0
  intro p e s m args below meth c A H locs ls C hW hS hl T hT X
  have hz : uF u = true → H.size = mX S := fun q => absurd (hf.symm.trans q) (by decide)
  have hA := C.2.2.2.2.2.2.2.2.2.1
  have hrun := vx_runS (Ts := []) (e := e) (below := below) (meth := meth) (H := H) (locs := locs) (cells := k) (slots := n) (g := F0 m pc ls (As.reverse ++ st)) (rest := st) ⟨C.1, C.2.1, C.2.2.2.1, C.2.2.2.2.1, fun w hw => nomatch hw⟩ (hc H.size) ⟨callB C hlk.1 hr, Cx_w C hlk.2 rfl⟩ ⟨cP_blind, pre_of C hW hS hr.2.2.2.2.1 hz As⟩ rfl hnp hl.1 rfl (lv_room hst) hd ⟨hr.2.2.1, hr.2.2.2.1⟩
  rcases hrun T hT X with ⟨v', st₀, t, T', L, h0, X', hL, e1, e2, hq, stp⟩ | ⟨q, st₀, t, T', L, E', ce, h0, X', hL, e1, e2, hx, hce, hcv, hcl, stp⟩
  · exact hq.elim
  · obtain ⟨rfl, hq, hF⟩ := hx
    obtain ⟨-, -, k3⟩ := vx_keep h0 e1 hS (fun q _ hq => free_in hW hS hA q hq) (free_in hW hS hA) hL hF
    have hok := after_call hr.2.2.2.2.1 hr.2.2.2.2.2 hz hW hS hA h0 hq
    rw [← e1] at hok
    have hout := vx_out (Qc := rQ g A (.inr E') S1 (uR u).cells (uF u)) (XC := rX g A (.inr E') S1 (uR u).cells (uF u)) (free := A) (ls := ls) (rest := st) (pc := pc) (e := e) (below := below) (args := args) (R := uR u) (l := l) (p := p) (locs := locs ++ L) (cells := k + (uR u2).cells) (slots := n + (uR u2).slots) (H := T'.heap) (m := m) (meth := meth) (c := c) (s := s) (mc := (uR u).cells) (ms := (uR u).slots)
      (fun x hx => by rw [C.2.2.2.2.2.2.2.2.2.2, hH] at hx; cases hx) C.2.2.2.2.2.1 (by rw [e1]; exact hce) hcv hcl (fun t2 ht2 _ => ⟨rfl, by rw [ht2]; exact ⟨hok.1, hok.2.1, hok.2.2.1, fun q => absurd (hf.symm.trans q) (by decide)⟩, k3.F ht2⟩) k3.2.2 hr.2.2.1 hr.2.2.2.1
    obtain ⟨t2, a1, b1⟩ := hout T' rfl X'
    exact ⟨t2, stp.trans a1, b1⟩
/-- what is thrown by the callee is caught here: the thing stands alone on the stack at the handler -/
theorem r_invV_c {idx np ci b : Nat} {As st0 : List Value} {E name : String} (hd : decode (uC u) pc = .ok (.invokevirtual idx, 3)) (hlk : LV (uY u).cls idx u2 np ci) (hr : RM u u2 k n) (hst : (st.map fun v => v.category).sum ≤ 8) (hnp : As.length = np) (h0 : st0 = As.reverse ++ .ref b :: st) (ho : ok S b ci)
    (pre : List (Nat × Nat × Nat × Nat)) (x : Nat × Nat × Nat × Nat) (suf : List (Nat × Nat × Nat × Nat)) (hH : uH u = pre ++ x :: suf) (hp : ∀ z ∈ pre, z.2.2.2 ≠ 0 ∧ ∃ nm, Cond.classLink (uY u).cls z.2.2.2 nm ∈ lw_tbl ∧ (E, nm) ∈ ncT) (hcov : covers ⟨x.1, x.2.1, x.2.2.1, x.2.2.2⟩ pc = true) (hx0 : x.2.2.2 ≠ 0) (hcl0 : Cond.classLink (uY u).cls x.2.2.2 name ∈ lw_tbl) (hcast : Cond.castable E name ∈ lw_tbl)
    (hf : uF u = false) (hc : Call g l u2 (.ref b :: As) S (.inr E) S1) (h : ∀ q : Nat, Run g l u Q x.2.2.1 lv [.ref q] (k + (uR u2).cells) (n + (uR u2).slots) S1) : Run g l u Q pc lv st0 k n S := by
  subst h0
  intro p e s m args below meth c A H locs ls C hW hS hl T hT X
  have hz : uF u = true → H.size = mX S := fun q => absurd (hf.symm.trans q) (by decide)
  have hA := C.2.2.2.2.2.2.2.2.2.1
  have hrun := vx_runV (Ts := []) (e := e) (below := below) (meth := meth) (H := H) (locs := locs) (cells := k) (slots := n) (g := F0 m pc ls (As.reverse ++ .ref b :: st)) (rest := st) ⟨C.1, C.2.1, C.2.2.2.1, C.2.2.2.2.1, fun w hw => nomatch hw⟩ (hc H.size) ⟨callB C hlk.1 hr, Cx_w C hlk.2.1 rfl, Cx_w C hlk.2.2.1 rfl⟩ ⟨cP_blind, rcv_of C hW hlk ho, pre_of C hW hS hr.2.2.2.2.1 hz (.ref b :: As)⟩ rfl hnp hl.1 rfl (lv_room hst) hd ⟨hr.2.2.1, hr.2.2.2.1⟩
  rcases hrun T hT X with ⟨v', st₀, t, T', L, h0, X', hL, e1, e2, hq, stp⟩ | ⟨q, st₀, t, T', L, E', ce, h0, X', hL, e1, e2, hx, hce, hcv, hcl, stp⟩
  · exact hq.elim
  · obtain ⟨rfl, hq, hF⟩ := hx
    obtain ⟨-, -, k3⟩ := vx_keep h0 e1 hS (fun q _ hq => free_in hW hS hA q hq) (free_in hW hS hA) hL hF
    have hok := after_call hr.2.2.2.2.1 hr.2.2.2.2.2 hz hW hS hA h0 hq
    rw [← e1] at hok
    have htab : c.exceptionTable.toList = tableOf pre ++ (⟨x.1, x.2.1, x.2.2.1, x.2.2.2⟩ : ExceptionTableEntry) :: tableOf suf := by
      rw [C.2.2.2.2.2.2.2.2.2.2, hH]
      simp [tableOf]
    have hcat := vx_catch (own := (uY u).cls) (name := name) (E := E') (ce := ce) (q := q) (ls := ls) (rest := st) (pc := pc) (e := e) (below := below) (args := args) (R := uR u) (l := l) (p := p) (locs := locs ++ L) (cells := k + (uR u2).cells) (slots := n + (uR u2).slots) (H := T'.heap) (m := m) (meth := meth) (c := c) (s := s) (Q := Q args below s A) C.2.2.2.2.1 (tableOf pre) ⟨x.1, x.2.1, x.2.2.1, x.2.2.2⟩ (tableOf suf) htab
      (fun z hz => by
        obtain ⟨z0, hz0, rfl⟩ := List.mem_map.mp hz
        obtain ⟨g1, nm, g2, g3⟩ := hp z0 hz0
        exact Or.inr ⟨g1, nm, Cx_w C g2 rfl, C.2.2.2.2.2.2.2.2.1.2.2.2.2.2.2.2 _ g3⟩) hcov hx0 (Cx_w C hcl0 rfl) (Cx_w C hcast rfl) (by rw [e1]; exact hce) hcv hcl
      (h q p e s m args below meth c A T'.heap (locs ++ L) ls C hok k3 hl)
    obtain ⟨t2, a1, b1⟩ := hcat T' rfl X'
    exact ⟨t2, stp.trans a1, b1⟩
-- tables that nobody writes
theorem r_letters {idx : Nat} (hd : decode (uC u) pc = .ok (.getstatic idx, 3)) {host : String} (hm : Cond.fieldLinkNest (uY u).cls idx RX5 "LETTERS" "[I" host ∈ lw_tbl) (h : Run g l u Q (pc + 3) lv (.ref g.2.2.1 :: st) k n S) : Run g l u Q pc lv st k n S :=
  fun p e s m args below meth c A H locs ls C hW hS hl => va_getsN C.1 C.2.1 C.2.2.2.2.2.2.2.2.1.2.2.2.2.1.1 hS C.2.2.2.2.1 (Cx_w C hm rfl) (fun _ h => h) hd (h p e s m args below meth c A H locs ls C hW hS hl)
theorem r_lettersN {idx : Nat} {v : Int32} {i : Int32} (hd : decode (uC u) pc = .ok (.iaload, 1)) (hi : vp_in i 4) (hv : letT i.toNatClampNeg = v) (h : Run g l u Q (pc + 1) lv (.int v :: st) k n S) : Run g l u Q pc lv (.int i :: .ref g.2.2.1 :: st) k n S :=
  fun p e s m args below meth c A H locs ls C hW hS hl => va_ti (v := .int v) C.1 C.2.1 C.2.2.2.2.2.2.2.2.1.2.2.2.2.1.2 hS hi (by show Value.int (letT i.toNatClampNeg) = .int v; rw [hv]) hd (h p e s m args below meth c A H locs ls C hW hS hl)
theorem r_lettersL (hd : decode (uC u) pc = .ok (.arraylength, 1)) (h : Run g l u Q (pc + 1) lv (.int 4 :: st) k n S) : Run g l u Q pc lv (.ref g.2.2.1 :: st) k n S :=
  fun p e s m args below meth c A H locs ls C hW hS hl => va_tlen C.1 C.2.1 C.2.2.2.2.2.2.2.2.1.2.2.2.2.1.2 hS rfl hd (h p e s m args below meth c A H locs ls C hW hS hl)
theorem r_scriptN {i : Int32} (hd : decode (uC u) pc = .ok (.iaload, 1)) (hi : vp_in i g.2.2.2.2.1) (h : Run g l u Q (pc + 1) lv (.int (g.2.2.2.2.2 i.toNatClampNeg) :: st) k n S) : Run g l u Q pc lv (.int i :: .ref g.2.2.2.1 :: st) k n S :=
  fun p e s m args below meth c A H locs ls C hW hS hl => va_ti (v := .int (g.2.2.2.2.2 i.toNatClampNeg)) C.1 C.2.1 C.2.2.2.2.2.2.2.2.1.2.2.2.2.2.1 hS hi rfl hd (h p e s m args below meth c A H locs ls C hW hS hl)
theorem r_scriptL (hd : decode (uC u) pc = .ok (.arraylength, 1)) (h : Run g l u Q (pc + 1) lv (.int (Int32.ofNat g.2.2.2.2.1) :: st) k n S) : Run g l u Q pc lv (.ref g.2.2.2.1 :: st) k n S :=
  fun p e s m args below meth c A H locs ls C hW hS hl => va_tlen C.1 C.2.1 C.2.2.2.2.2.2.2.2.1.2.2.2.2.2.1 hS rfl hd (h p e s m args below meth c A H locs ls C hW hS hl)
-- Math
theorem r_max {idx : Nat} {x y : Int32} (hd : decode (uC u) pc = .ok (.invokestatic idx, 3)) (h1 : Cond.methodLink (uY u).cls idx Lib.Math.max.name ∈ lw_tbl) (h2 : Cond.static Lib.Math.max.name ∈ lw_tbl ∧ Cond.initialized "java/lang/Math" ∈ lw_tbl ∧ Cond.code Lib.Math.max.name Lib.Math.max.code 2 (some .int) ∈ lw_tbl) (hf : 1 ≤ (uR u).frames) (hlo : (st.map fun v => v.category).sum + 13 ≤ (uR u).locals) (hc : k ≤ (uR u).cells) (hs : n ≤ (uR u).slots)
    (h : Run g l u Q (pc + 3) lv (.int (if x < y then y else x) :: st) k n S) : Run g l u Q pc lv (.int y :: .int x :: st) k n S :=
  fun p e s m args below meth c A H locs ls C hW hS hl => va_mmax C.1 C.2.1 (by rw [hl.1]; exact C.2.2.2.1) C.2.2.2.2.1 (Cx_w C h1 rfl) (Cx_w C h2.1 rfl) (Cx_w C h2.2.1 rfl) (Cx_w C h2.2.2 rfl) hf hlo hc hs hd (h p e s m args below meth c A H locs ls C hW hS hl)
theorem r_min {idx : Nat} {x y : Int32} (hd : decode (uC u) pc = .ok (.invokestatic idx, 3)) (h1 : Cond.methodLink (uY u).cls idx Lib.Math.min.name ∈ lw_tbl) (h2 : Cond.static Lib.Math.min.name ∈ lw_tbl ∧ Cond.initialized "java/lang/Math" ∈ lw_tbl ∧ Cond.code Lib.Math.min.name Lib.Math.min.code 2 (some .int) ∈ lw_tbl) (hf : 1 ≤ (uR u).frames) (hlo : (st.map fun v => v.category).sum + 13 ≤ (uR u).locals) (hc : k ≤ (uR u).cells) (hs : n ≤ (uR u).slots)
    (h : Run g l u Q (pc + 3) lv (.int (if y < x then y else x) :: st) k n S) : Run g l u Q pc lv (.int y :: .int x :: st) k n S :=
  fun p e s m args below meth c A H locs ls C hW hS hl => va_mmin C.1 C.2.1 (by rw [hl.1]; exact C.2.2.2.1) C.2.2.2.2.1 (Cx_w C h1 rfl) (Cx_w C h2.1 rfl) (Cx_w C h2.2.1 rfl) (Cx_w C h2.2.2 rfl) hf hlo hc hs hd (h p e s m args below meth c A H locs ls C hW hS hl)
theorem w_max : Cond.static Lib.Math.max.name ∈ lw_tbl ∧ Cond.initialized "java/lang/Math" ∈ lw_tbl ∧ Cond.code Lib.Math.max.name Lib.Math.max.code 2 (some .int) ∈ lw_tbl := by decide +kernel
theorem w_min : Cond.static Lib.Math.min.name ∈ lw_tbl ∧ Cond.initialized "java/lang/Math" ∈ lw_tbl ∧ Cond.code Lib.Math.min.name Lib.Math.min.code 2 (some .int) ∈ lw_tbl := by decide +kernel
-- arraycopy of ints
theorem w_copy : Cond.native arraycopyName ∈ lw_tbl ∧ Cond.static arraycopyName ∈ lw_tbl ∧ Cond.initialized "java/lang/System" ∈ lw_tbl := by decide +kernel
theorem cell_F {a : Nat} (hK : mK S a = 7) (f : Nat → Int32) (b : Nat) : va_up (mCell g S) a (.inl (g.2.1 7, mN S a, .inl f)) b = mCell g (sF S a f) b := by
  by_cases hb : b = a
  · subst hb
    rw [va_up_self, mCell_7 (S := sF S b f) hK]
    show _ = Sum.inl (g.2.1 7, mN S b, Sum.inl (va_up (mI S) b f b))
    rw [va_up_self]
  · rw [va_up_ne _ _ hb]
    exact (mCell_eq (S := S) (S' := sF S a f) rfl rfl (va_up_ne _ _ hb) rfl rfl rfl).symm
theorem r_copy {idx a b : Nat} {sp dp cn : Int32} (hd : decode (uC u) pc = .ok (.invokestatic idx, 3)) (h1 : Cond.methodLink (uY u).cls idx arraycopyName ∈ lw_tbl) (hf : 1 ≤ (uR u).frames) (hlo : (st.map fun v => v.category).sum + (nativeFrameWords "java/lang/System" "arraycopy" 5 + 11) ≤ (uR u).locals)
    (ho : ok S a 7) (ho2 : ok S b 7) (p1 : ¬ sp < 0) (p2 : ¬ dp < 0) (p3 : ¬ cn < 0) (p4 : sp.toNatClampNeg + cn.toNatClampNeg ≤ mN S a) (p5 : dp.toNatClampNeg + cn.toNatClampNeg ≤ mN S b)
    (h : Run g l u Q (pc + 3) lv st k n (sF S b (va_cpy (mI S a) (mI S b) sp.toNatClampNeg dp.toNatClampNeg cn.toNatClampNeg))) : Run g l u Q pc lv (.int cn :: .int dp :: .ref b :: .int sp :: .ref a :: st) k n S := by
  intro p e s m args below meth c A H locs ls C hW hS hl
  obtain ⟨q0, hq0⟩ := mW_get g ho.1
  obtain ⟨q1, hq1⟩ := mW_get g ho2.1
  have hq1' := hq1
  rw [mCell_7 ho.2] at hq0
  rw [mCell_7 ho2.2] at hq1'
  exact va_copyi (ty := .int) C.1 C.2.1 (by rw [hl.1]; exact C.2.2.2.1) C.2.2.2.2.1 (Cx_w C h1 rfl) (Cx_w C w_copy.1 rfl) (Cx_w C w_copy.2.1 rfl) (Cx_w C w_copy.2.2 rfl) C.2.2.2.2.2.2.2.2.1.2.2.1 hW.1 hW.2.1 hS q0 q1 0 0 hq0 hq1' rfl rfl rfl p1 p2 p3 p4 p5 (fun _ _ => rfl) hf hlo hd
    (fun H1 locs1 hP1 hD1 hS1 => h p e s m args below meth c A H1 locs1 ls C (okW_set hW ho2.1 hq1 rfl rfl (cell_F ho2.2 _) hP1 hD1) hS1 hl)
-- Object()
theorem r_objInit {idx a : Nat} (hd : decode (uC u) pc = .ok (.invokespecial idx, 3)) (h1 : Cond.methodLink (uY u).cls idx objectInit ∈ lw_tbl) (h2 : Cond.instanceMethod objectInit ∈ lw_tbl ∧ Cond.code objectInit ⟨#[0xb1]⟩ 1 none ∈ lw_tbl) (hf : 1 ≤ (uR u).frames) (hlo : (st.map fun v => v.category).sum + 12 ≤ (uR u).locals)
    (h : Run g l u Q (pc + 3) lv st k n S) : Run g l u Q pc lv (.ref a :: st) k n S :=
  fun p e s m args below meth c A H locs ls C hW hS hl => W.objInit (a := a) (rest := st) C.1 C.2.1 C.2.2.2.2.1 (Cx_w C h1 rfl) (Cx_w C h2.1 rfl) (Cx_w C h2.2 rfl) rfl (by show ls.size = _; rw [hl.1]; exact C.2.2.2.1.symm) rfl hd hf (by show 2 * 0 + _ + 12 ≤ _; omega) (h p e s m args below meth c A H locs ls C hW hS hl)
theorem w_obj : Cond.instanceMethod objectInit ∈ lw_tbl ∧ Cond.code objectInit ⟨#[0xb1]⟩ 1 none ∈ lw_tbl := by decide +kernel
end RX
end
section
/-! What a constructor makes: the next address is known. -/
theorem mW_nw {g : GG} {S : Mem} {c n : Nat} (h : mX S ∉ mL S) : mW g (nw S c n) = mW g S ++ [(mX S, mCell g (nw S c n) (mX S))] := by
  have h1 : mW g S ++ [(mX S, mCell g (nw S c n) (mX S))] = va_pl (mL S ++ [mX S]) (va_up (mCell g S) (mX S) (mCell g (nw S c n) (mX S))) := va_pl_push h
  rw [h1]
  refine va_pl_congr (fun b => ?_)
  by_cases hb : b = mX S
  · rw [hb, va_up_self]
  · rw [va_up_ne _ _ hb]
    exact mCell_eq (S := S) (S' := nw S c n) (va_up_ne _ _ hb) (va_up_ne _ _ hb) (va_up_ne _ _ hb) (va_up_ne _ _ hb) (va_up_ne _ _ hb) (va_up_ne _ _ hb)
/-- entry idx of own's pool is class ci, to be made -/
def NO (own : String) (idx ci : Nat) : Prop :=
  ∃ (D : String) (T : u_T) (N : Nat) (ty : Nat → FieldType), CF ci D T N ty ∧ Cond.classLink own idx D ∈ lw_tbl ∧ Cond.instantiable D N ∈ lw_tbl ∧ Cond.initialized D ∈ lw_tbl ∧ ∀ j, j < N → defaultValue (ty j) = if rfT ci j = true then .null else .int 0
section RN
variable {g : GG} {l : Launch} {u u2 : MU} {Q : FQ} {pc : Nat} {lv : List (Nat × Value)} {st : List Value} {k n : Nat} {S S1 : Mem}
theorem nw_ok {A : Nat → Prop} {H H1 : Heap} {s : State} {c N : Nat} {locs : List Loc} (hz : H.size = mX S) (hW : okW g A S H s k true) (hS : va_S A s.heap H locs) (hA : ∀ q, s.heap.size ≤ q → A q) (z1 : H1.size = mX S + 1) (o1 : ∀ q, q < mX S → H1[q]? = H[q]?) (he : va_at g.1 vwCl (mX S, mCell g (nw S c N) (mX S)) H1) :
    okW g A (nw S c N) H1 s (k + 1) true ∧ va_S A s.heap H1 locs := by
  have hni : mX S ∉ mL S := by
    intro hq
    obtain ⟨i, hi⟩ := mW_get g hq
    have := (hW.1 i _ hi).lt
    dsimp only at this
    omega
  have hk : ∀ (i : Nat) (x : Nat × va_E), (mW g S)[i]? = some x → H1[x.1]? = H[x.1]? := fun i x hx => o1 x.1 (by rw [← hz]; exact (hW.1 i x hx).lt)
  refine ⟨⟨?_, ?_, ?_, ?_⟩, ?_⟩
  · rw [mW_nw hni]
    refine (hW.1.kept hk).app (fun i x hx => ?_)
    have hi : i < 1 := (List.getElem?_eq_some_iff.mp hx).1
    rw [show i = 0 by omega] at hx
    cases hx
    exact he
  · rw [mW_nw hni]
    exact hW.2.1.push hW.1 hz.symm (hA _ (by rw [← hz]; exact hS.1))
  · intro q
    cases q
  · intro _
    have h1 := (hW.2.2.2 rfl).1
    refine ⟨?_, Or.inr ?_⟩
    · show mX S + 1 = _
      omega
    · show mX S + 1 - 1 ∈ mL S ++ [mX S]
      simp
  · refine ⟨?_, fun q h1 h2 => ?_, hS.2.2⟩
    · have := hS.1
      omega
    · have := hS.1
      rw [o1 q (by omega)]
      exact hS.2.1 q h1 h2
theorem r_new {idx ci : Nat} (hd : decode (uC u) pc = .ok (.new idx, 3)) (hn : NO (uY u).cls idx ci) (hf : uF u = true) (hc : k + 1 ≤ (uR u).cells) (hs : n + nfT ci ≤ (uR u).slots) (h : Run g l u Q (pc + 3) lv (.ref (mX S) :: st) (k + 1) (n + nfT ci) (nw S ci 0)) : Run g l u Q pc lv st k n S := by
  intro p e s m args below meth c A H locs ls C hW hS hl T hT X
  have hW' : okW g A S H s k true := by rw [← hf]; exact hW
  have hz := size_of X hT hW' hS
  obtain ⟨D, U, N, ty, ⟨c1, c2, c3, c4, c5, c6⟩, h1, h2, h3, h4⟩ := hn
  have hKn := C.2.2.2.2.2.2.2.2.1.2.2.1.1 ci _ c1
  rw [← c2] at hs h
  suffices hw : W p l e (uR u) s m args below meth c H locs k n (Q args below s A) (F0 m pc ls st) from hw T hT X
  refine W.newcK (h := mX S) (g := F0 m pc ls st) C.1 C.2.1 C.2.2.2.2.1 (Cx_w C h1 rfl) (Cx_w C h2 rfl) (Cx_w C h3 rfl) rfl hd hc hs hKn.2.1 hz (fun H1 kC hkC e1 z1 o1 => ?_)
  have hcell : mCell g (nw S ci 0) (mX S) = .inr (ci, fsM (nw S ci 0) (mX S) ci) := mCell_o (va_up_self _ _ _) c6
  have hnk := nw_ok (c := ci) (N := 0) hz hW' hS C.2.2.2.2.2.2.2.2.2.1 z1 o1 (by
    rw [hcell]
    refine ⟨_, c1, (u_born (ws := u_ws D U N) ty (fun w hw => Cx_w C (c3 w hw).1 (c3 w hw).2) (fun _ h => h) hKn hkC e1 c4).to (fun j hj => ?_)⟩
    rw [h4 j hj]
    have hj2 : j < nfT ci := by rw [← c2]; exact hj
    show _ = vp_V (fsM (nw S ci 0) (mX S) ci) j
    simp only [vp_V, List.getD_eq_getElem?_getD, fsM_get hj2, Option.getD_some, fvM]
    by_cases hr : rfT ci j = true
    · rw [if_pos hr, if_pos hr]
      show _ = va_rf (va_up (mR S) (mX S) (fun _ => none) (mX S) j)
      rw [va_up_self]
      rfl
    · rw [if_neg hr, if_neg hr]
      show _ = Value.int (va_up (mI S) (mX S) (fun _ => 0) (mX S) j)
      rw [va_up_self])
  exact h p e s m args below meth c A H1 locs ls C (by rw [hf]; exact hnk.1) hnk.2 hl
theorem r_newa {at9 : ArrayType} {ty : FieldType} {kd t0 N : Nat} {x : Int32} (hd : decode (uC u) pc = .ok (.newarray at9, 2)) (hty : newarray.typeOf at9 = ty) (hm : Cond.arrayClass ty ∈ lw_tbl) (hk : (tysG g)[t0]? = some (g.2.1 kd, ty)) (hra : ∀ (U : State) (q : ClassId), va_RA U q ty → U.vm.findClass ("[" ++ ty.toString) = some q)
    (hcell : ∀ (S : Mem) (cA : ClassId), cA = g.2.1 kd → va_at g.1 vwCl (mX S, mCell g (nw S kd N) (mX S)) = fun H => H[mX S]? = some (arrV cA N (fun _ => defaultValue ty))) (hx : ¬ x < 0) (hN : x.toNatClampNeg = N) (hb : N * componentBytes ty ≤ 536870912)
    (hf : uF u = true) (hc : k + 1 ≤ (uR u).cells) (hs : n + N ≤ (uR u).slots) (h : Run g l u Q (pc + 2) lv (.ref (mX S) :: st) (k + 1) (n + N) (nw S kd N)) : Run g l u Q pc lv (.int x :: st) k n S := by
  subst hty
  intro p e s m args below meth c A H locs ls C hW hS hl T hT X
  have hW' : okW g A S H s k true := by rw [← hf]; exact hW
  have hz := size_of X hT hW' hS
  suffices hw : W p l e (uR u) s m args below meth c H locs k n (Q args below s A) (F0 m pc ls (.int x :: st)) from hw T hT X
  refine va_newaK (h := mX S) (g := F0 m pc ls (.int x :: st)) (rest := st) C.1 C.2.1 (Cx_w C hm rfl) rfl hd rfl hx hN hb hc hs hz (fun H1 cA e1 z1 o1 hAr hNm => ?_)
  have hcA : cA = g.2.1 kd := by
    have h2 := hra s _ (C.2.2.2.2.2.2.2.2.1.2.2.1.2 t0 _ hk).2
    exact Option.some.inj (hNm.symm.trans h2)
  have hnk := nw_ok (c := kd) (N := N) hz hW' hS C.2.2.2.2.2.2.2.2.2.1 z1 o1 (by rw [hcell S cA hcA]; exact e1)
  exact h p e s m args below meth c A H1 locs ls C (by rw [hf]; exact hnk.1) hnk.2 hl
theorem cell_nw {S : Mem} {c N : Nat} : mK (nw S c N) (mX S) = c ∧ mN (nw S c N) (mX S) = N ∧ mI (nw S c N) (mX S) = (fun _ => 0) ∧ mR (nw S c N) (mX S) = (fun _ => none) ∧ mJ (nw S c N) (mX S) = (fun _ => 0) ∧ mD (nw S c N) (mX S) = (fun _ => 0) :=
  ⟨va_up_self _ _ _, va_up_self _ _ _, va_up_self _ _ _, va_up_self _ _ _, va_up_self _ _ _, va_up_self _ _ _⟩
theorem r_newI {N : Nat} {x : Int32} (hd : decode (uC u) pc = .ok (.newarray .int, 2)) (hx : ¬ x < 0) (hN : x.toNatClampNeg = N) (hb : N * 4 ≤ 536870912)
    (hf : uF u = true) (hc : k + 1 ≤ (uR u).cells) (hs : n + N ≤ (uR u).slots) (h : Run g l u Q (pc + 2) lv (.ref (mX S) :: st) (k + 1) (n + N) (nw S 7 N)) : Run g l u Q pc lv (.int x :: st) k n S :=
  r_newa (ty := .int) (kd := 7) (t0 := 0) hd rfl (by decide +kernel) rfl (fun _ _ h => h) (fun S cA hcA => by
    obtain ⟨h1, h2, h3, h4, h5, h6⟩ := cell_nw (S := S) (c := 7) (N := N)
    rw [mCell_7 h1, h2, h3, hcA]
    rfl) hx hN hb hf hc hs h
theorem r_newZ {N : Nat} {x : Int32} (hd : decode (uC u) pc = .ok (.newarray .boolean, 2)) (hx : ¬ x < 0) (hN : x.toNatClampNeg = N) (hb : N * 1 ≤ 536870912)
    (hf : uF u = true) (hc : k + 1 ≤ (uR u).cells) (hs : n + N ≤ (uR u).slots) (h : Run g l u Q (pc + 2) lv (.ref (mX S) :: st) (k + 1) (n + N) (nw S 8 N)) : Run g l u Q pc lv (.int x :: st) k n S :=
  r_newa (ty := .boolean) (kd := 8) (t0 := 1) hd rfl (by decide +kernel) rfl (fun _ _ h => h) (fun S cA hcA => by
    obtain ⟨h1, h2, h3, h4, h5, h6⟩ := cell_nw (S := S) (c := 8) (N := N)
    rw [mCell_8 h1, h2, h3, hcA]
    rfl) hx hN hb hf hc hs h
theorem r_newJ {N : Nat} {x : Int32} (hd : decode (uC u) pc = .ok (.newarray .long, 2)) (hx : ¬ x < 0) (hN : x.toNatClampNeg = N) (hb : N * 8 ≤ 536870912)
    (hf : uF u = true) (hc : k + 1 ≤ (uR u).cells) (hs : n + N ≤ (uR u).slots) (h : Run g l u Q (pc + 2) lv (.ref (mX S) :: st) (k + 1) (n + N) (nw S 10 N)) : Run g l u Q pc lv (.int x :: st) k n S :=
  r_newa (ty := .long) (kd := 10) (t0 := 3) hd rfl (by decide +kernel) rfl (fun _ _ h => h) (fun S cA hcA => by
    obtain ⟨h1, h2, h3, h4, h5, h6⟩ := cell_nw (S := S) (c := 10) (N := N)
    rw [mCell_10 h1, h2, h5, hcA]
    rfl) hx hN hb hf hc hs h
theorem r_newD {N : Nat} {x : Int32} (hd : decode (uC u) pc = .ok (.newarray .double, 2)) (hx : ¬ x < 0) (hN : x.toNatClampNeg = N) (hb : N * 8 ≤ 536870912)
    (hf : uF u = true) (hc : k + 1 ≤ (uR u).cells) (hs : n + N ≤ (uR u).slots) (h : Run g l u Q (pc + 2) lv (.ref (mX S) :: st) (k + 1) (n + N) (nw S 11 N)) : Run g l u Q pc lv (.int x :: st) k n S :=
  r_newa (ty := .double) (kd := 11) (t0 := 4) hd rfl (by decide +kernel) rfl (fun _ _ h => h) (fun S cA hcA => by
    obtain ⟨h1, h2, h3, h4, h5, h6⟩ := cell_nw (S := S) (c := 11) (N := N)
    rw [mCell_11 h1, h2, h6, hcA]
    rfl) hx hN hb hf hc hs h
theorem r_newV {idx N : Nat} {x : Int32} (hd : decode (uC u) pc = .ok (.anewarray idx, 3)) (hm : Cond.classLink (uY u).cls idx RX4 ∈ lw_tbl) (hx : ¬ x < 0) (hN : x.toNatClampNeg = N) (hb : N * 4 ≤ 536870912)
    (hf : uF u = true) (hc : k + 1 ≤ (uR u).cells) (hs : n + N ≤ (uR u).slots) (h : Run g l u Q (pc + 3) lv (.ref (mX S) :: st) (k + 1) (n + N) (nw S 9 N)) : Run g l u Q pc lv (.int x :: st) k n S := by
  subst hN
  intro p e s m args below meth c A H locs ls C hW hS hl T hT X
  have hW' : okW g A S H s k true := by rw [← hf]; exact hW
  have hz := size_of X hT hW' hS
  suffices hw : W p l e (uR u) s m args below meth c H locs k n (Q args below s A) (F0 m pc ls (.int x :: st)) from hw T hT X
  refine W.anew (g := F0 m pc ls (.int x :: st)) (rest := st) C.1 C.2.1 C.2.2.2.2.1 (Cx_w C hm rfl) (va_AO.use C.2.2.2.2.2.2.2.2.1.2.2.2.2.2.2.1) rfl hd rfl hx hb hc hs (fun cA kA comp f1 f2 f3 f4 => ?_)
  obtain ⟨kA', comp', g1, g2, g3, g4⟩ := (C.2.2.2.2.2.2.2.2.1.2.2.1.2 2 _ rfl).2
  have hcA : cA = g.2.1 9 := Option.some.inj (f1.symm.trans g4)
  generalize hH1 : H.push ({ cls := cA, slots := Array.replicate x.toNatClampNeg .null, vm := .none } : Cell) = H1
  have z1 : H1.size = mX S + 1 := by rw [← hH1, Array.size_push, hz]
  have e1 : H1[mX S]? = some (arrV cA x.toNatClampNeg (fun _ => .null)) := by rw [← hH1, ← hz, Array.getElem?_push_size, ← arrV_new]
  have o1 : ∀ q : Nat, q < mX S → H1[q]? = H[q]? := fun q hq => by rw [← hH1, Array.getElem?_push, if_neg (by omega)]
  have hnk := nw_ok (c := 9) (N := x.toNatClampNeg) hz hW' hS C.2.2.2.2.2.2.2.2.2.1 z1 o1 (by
    obtain ⟨h1, h2, h3, h4, h5, h6⟩ := cell_nw (S := S) (c := 9) (N := x.toNatClampNeg)
    rw [mCell_9 h1, h2, h4]
    show H1[mX S]? = some (vp_cell _ _)
    rw [vp_cell_q, e1, hcA]
    rfl)
  show W p l e (uR u) s m args below meth c H1 locs (k + 1) (n + x.toNatClampNeg) (Q args below s A) (F0 m (pc + 3) ls (.ref H.size :: st))
  rw [hz]
  exact h p e s m args below meth c A H1 locs ls C (by rw [hf]; exact hnk.1) hnk.2 hl
end RN
end
section
/-! What an instruction gives as a function of the memory (none: the machine itself would throw, or the kind is another), and its rule. -/
def cvI (r : Int32) : Option Value ⊕ String := .inl (some (.int r))
def cvV : Option Value ⊕ String := .inl none
def cvR (r : Nat) : Option Value ⊕ String := .inl (some (.ref r))
def cvF (r : UInt32) : Option Value ⊕ String := .inl (some (.float r))
def cxI (r : Int32 ⊕ String) : Option Value ⊕ String := match r with
  | .inl x => .inl (some (.int x))
  | .inr e => .inr e
def cxF (r : UInt32 ⊕ String) : Option Value ⊕ String := match r with
  | .inl x => .inl (some (.float x))
  | .inr e => .inr e
def cxV (r : Unit ⊕ String) : Option Value ⊕ String := match r with
  | .inl _ => .inl none
  | .inr e => .inr e
def pk (c : Nat) (S : Mem) (a : Nat) : Option Unit := if a ∈ mL S ∧ mK S a = c then some () else none
def pgI (c j : Nat) (S : Mem) (a : Nat) : Option Int32 := if a ∈ mL S ∧ mK S a = c then some (mI S a j) else none
def pgR (c j : Nat) (S : Mem) (a : Nat) : Option Nat := if a ∈ mL S ∧ mK S a = c then mR S a j else none
def ppI (c j : Nat) (S : Mem) (a : Nat) (x : Int32) : Option Mem := if a ∈ mL S ∧ mK S a = c then some (sI S a j x) else none
def ppZ (c j : Nat) (S : Mem) (a : Nat) (x : Int32) : Option Mem := if (a ∈ mL S ∧ mK S a = c) ∧ (x = 0 ∨ x = 1) then some (sI S a j x) else none
def ppF (c j : Nat) (S : Mem) (a b : Nat) : Option Mem := if a ∈ mL S ∧ mK S a = c then some (sR S a j (some b)) else none
def paI (S : Mem) (a : Nat) (i : Int32) : Option Int32 := if (a ∈ mL S ∧ mK S a = 7) ∧ ¬ (i < 0 ∨ mN S a ≤ i.toNatClampNeg) then some (mI S a i.toNatClampNeg) else none
def paZ (S : Mem) (a : Nat) (i : Int32) : Option Int32 := if (a ∈ mL S ∧ mK S a = 8) ∧ ¬ (i < 0 ∨ mN S a ≤ i.toNatClampNeg) then some (mI S a i.toNatClampNeg) else none
def paR (S : Mem) (a : Nat) (i : Int32) : Option Nat := if (a ∈ mL S ∧ mK S a = 9) ∧ ¬ (i < 0 ∨ mN S a ≤ i.toNatClampNeg) then mR S a i.toNatClampNeg else none
def paJ (S : Mem) (a : Nat) (i : Int32) : Option Int64 := if (a ∈ mL S ∧ mK S a = 10) ∧ ¬ (i < 0 ∨ mN S a ≤ i.toNatClampNeg) then some (mJ S a i.toNatClampNeg) else none
def paD (S : Mem) (a : Nat) (i : Int32) : Option UInt64 := if (a ∈ mL S ∧ mK S a = 11) ∧ ¬ (i < 0 ∨ mN S a ≤ i.toNatClampNeg) then some (mD S a i.toNatClampNeg) else none
def psI (S : Mem) (a : Nat) (i x : Int32) : Option Mem := if (a ∈ mL S ∧ mK S a = 7) ∧ ¬ (i < 0 ∨ mN S a ≤ i.toNatClampNeg) then some (sI S a i.toNatClampNeg x) else none
def psZ (S : Mem) (a : Nat) (i x : Int32) : Option Mem := if ((a ∈ mL S ∧ mK S a = 8) ∧ ¬ (i < 0 ∨ mN S a ≤ i.toNatClampNeg)) ∧ (x = 0 ∨ x = 1) then some (sI S a i.toNatClampNeg x) else none
def psR (S : Mem) (a : Nat) (i : Int32) (b : Nat) : Option Mem := if ((a ∈ mL S ∧ mK S a = 9) ∧ ¬ (i < 0 ∨ mN S a ≤ i.toNatClampNeg)) ∧ (b ∈ mL S ∧ mK S b = 4) then some (sR S a i.toNatClampNeg (some b)) else none
def psJ (S : Mem) (a : Nat) (i : Int32) (x : Int64) : Option Mem := if (a ∈ mL S ∧ mK S a = 10) ∧ ¬ (i < 0 ∨ mN S a ≤ i.toNatClampNeg) then some (sJ S a i.toNatClampNeg x) else none
def psD (S : Mem) (a : Nat) (i : Int32) (x : UInt64) : Option Mem := if (a ∈ mL S ∧ mK S a = 11) ∧ ¬ (i < 0 ∨ mN S a ≤ i.toNatClampNeg) then some (sD S a i.toNatClampNeg x) else none
def ptL (i : Int32) : Option Int32 := if ¬ (i < 0 ∨ 4 ≤ i.toNatClampNeg) then some (letT i.toNatClampNeg) else none
def pdiv (x y : Int32) : Option Int32 := if y = 0 then none else some (x / y)
def prem (x y : Int32) : Option Int32 := if y = 0 then none else some (x - x / y * y)
def pfadd (x y : UInt32) : Option UInt32 := if FP.fadd x y &&& 0x7fffffff ≤ 0x7f800000 then some (FP.fadd x y) else none
def pfmul (x y : UInt32) : Option UInt32 := if FP.fmul x y &&& 0x7fffffff ≤ 0x7f800000 then some (FP.fmul x y) else none
def pfdiv (x y : UInt32) : Option UInt32 := if FP.fdiv x y &&& 0x7fffffff ≤ 0x7f800000 then some (FP.fdiv x y) else none
def pmax (x y : Int32) : Int32 := if x < y then y else x
def pmin (x y : Int32) : Int32 := if y < x then y else x
def pcp (S : Mem) (a : Nat) (sp : Int32) (b : Nat) (dp cn : Int32) : Option Mem :=
  if ((a ∈ mL S ∧ mK S a = 7) ∧ (b ∈ mL S ∧ mK S b = 7)) ∧ (¬ sp < 0 ∧ ¬ dp < 0 ∧ ¬ cn < 0) ∧ sp.toNatClampNeg + cn.toNatClampNeg ≤ mN S a ∧ dp.toNatClampNeg + cn.toNatClampNeg ≤ mN S b then some (sF S b (va_cpy (mI S a) (mI S b) sp.toNatClampNeg dp.toNatClampNeg cn.toNatClampNeg)) else none
/-- a boolean answer -/
def rtZ (x : Int32) (S : Mem) : Option (Int32 × Mem) := if x = 0 ∨ x = 1 then some (x, S) else none
theorem if_some {α : Type} {c : Prop} [Decidable c] {x y : α} (h : (if c then some x else none) = some y) : c ∧ x = y := by
  by_cases hc : c
  · rw [if_pos hc] at h; exact ⟨hc, Option.some.inj h⟩
  · rw [if_neg hc] at h; cases h
theorem if_opt {α : Type} {c : Prop} [Decidable c] {x : Option α} {y : α} (h : (if c then x else none) = some y) : c ∧ x = some y := by
  by_cases hc : c
  · rw [if_pos hc] at h; exact ⟨hc, h⟩
  · rw [if_neg hc] at h; cases h
theorem bd {α β : Type} {x : Option α} {f : α → Option β} {y : β} (h : x.bind f = some y) : ∃ z, x = some z ∧ f z = some y := Option.bind_eq_some_iff.mp h
def bd2 {α β γ : Type} (x : Option (α × β)) (f : α → β → Option γ) : Option γ := match x with
  | some p => f p.1 p.2
  | none => none
theorem bd2_s {α β γ : Type} {x : Option (α × β)} {f : α → β → Option γ} {y : γ} (h : bd2 x f = some y) : ∃ a b, x = some (a, b) ∧ f a b = some y := by
  cases x with
  | none => cases h
  | some p => exact ⟨p.1, p.2, rfl, h⟩
def bdx {α β : Type} (x : Option ((α ⊕ String) × Mem)) (f : α → Mem → Option ((β ⊕ String) × Mem)) : Option ((β ⊕ String) × Mem) := match x with
  | some (.inl a, S) => f a S
  | some (.inr e, S) => some (.inr e, S)
  | none => none
theorem bdx_s {α β : Type} {x : Option ((α ⊕ String) × Mem)} {f : α → Mem → Option ((β ⊕ String) × Mem)} {r : β ⊕ String} {S' : Mem} (h : bdx x f = some (r, S')) : (∃ a S1, x = some (.inl a, S1) ∧ f a S1 = some (r, S')) ∨ ∃ e, x = some (.inr e, S') ∧ r = .inr e := by
  match x, h with
  | some (.inl a, S), h => exact Or.inl ⟨a, S, rfl, h⟩
  | some (.inr e, S), h =>
    cases h
    exact Or.inr ⟨e, rfl, rfl⟩
/-- how often a loop may turn -/
def FU : Nat := 4000
theorem pk_ok {c : Nat} {S : Mem} {a : Nat} {z : Unit} (h : pk c S a = some z) : ok S a c := (if_some h).1
section RP
variable {g : GG} {l : Launch} {u u2 : MU} {Q : FQ} {pc : Nat} {lv : List (Nat × Value)} {st : List Value} {k n : Nat} {S S1 : Mem}
theorem q_getI {idx ci j a : Nat} {f : Bool} {t : FieldType} {x : Int32} (h0 : pgI ci j S a = some x) (hd : decode (uC u) pc = .ok (.getfield idx, 3)) (hf : FL (uY u).cls idx ci j f t) (hr : rfT ci j = false) (h : Run g l u Q (pc + 3) lv (.int x :: st) k n S) : Run g l u Q pc lv (.ref a :: st) k n S := by
  obtain ⟨h1, rfl⟩ := if_some h0
  exact r_getI hd hf hr h1 h
theorem q_getR {idx ci j a b : Nat} {f : Bool} {t : FieldType} (h0 : pgR ci j S a = some b) (hd : decode (uC u) pc = .ok (.getfield idx, 3)) (hf : FL (uY u).cls idx ci j f t) (hr : rfT ci j = true) (h : Run g l u Q (pc + 3) lv (.ref b :: st) k n S) : Run g l u Q pc lv (.ref a :: st) k n S := by
  obtain ⟨h1, h2⟩ := if_opt h0
  exact r_getR hd hf hr h1 h2 h
theorem q_putI {idx ci j a : Nat} {x : Int32} (h0 : ppI ci j S a x = some S1) (hd : decode (uC u) pc = .ok (.putfield idx, 3)) (hf : FL (uY u).cls idx ci j false .int) (hr : rfT ci j = false) (h : Run g l u Q (pc + 3) lv st k n S1) : Run g l u Q pc lv (.int x :: .ref a :: st) k n S := by
  obtain ⟨h1, rfl⟩ := if_some h0
  exact r_putI hd hf hr h1 h
theorem q_putZ {idx ci j a : Nat} {x : Int32} (h0 : ppZ ci j S a x = some S1) (hd : decode (uC u) pc = .ok (.putfield idx, 3)) (hf : FL (uY u).cls idx ci j false .boolean) (hr : rfT ci j = false) (h : Run g l u Q (pc + 3) lv st k n S1) : Run g l u Q pc lv (.int x :: .ref a :: st) k n S := by
  obtain ⟨⟨h1, h2⟩, rfl⟩ := if_some h0
  exact r_putZ hd hf hr h2 h1 h
theorem q_putF {idx ci j a b : Nat} {t : FieldType} (h0 : ppF ci j S a b = some S1) (hd : decode (uC u) pc = .ok (.putfield idx, 3)) (hf : FF (uY u).cls idx ci j t) (hi : (uY u).name = "<init>") (hr : rfT ci j = true) (hn : narrow t (.ref b) = .ref b) (hfit : fits t (.ref b) = true) (h : Run g l u Q (pc + 3) lv st k n S1) : Run g l u Q pc lv (.ref b :: .ref a :: st) k n S := by
  obtain ⟨h1, rfl⟩ := if_some h0
  exact r_putF hd hf hi hr hn hfit h1 h
theorem q_iaload {a : Nat} {i x : Int32} (h0 : paI S a i = some x) (hd : decode (uC u) pc = .ok (.iaload, 1)) (h : Run g l u Q (pc + 1) lv (.int x :: st) k n S) : Run g l u Q pc lv (.int i :: .ref a :: st) k n S := by
  obtain ⟨⟨h1, h2⟩, rfl⟩ := if_some h0
  exact r_iaload hd h1 h2 h
theorem q_baload {a : Nat} {i x : Int32} (h0 : paZ S a i = some x) (hd : decode (uC u) pc = .ok (.baload, 1)) (h : Run g l u Q (pc + 1) lv (.int x :: st) k n S) : Run g l u Q pc lv (.int i :: .ref a :: st) k n S := by
  obtain ⟨⟨h1, h2⟩, rfl⟩ := if_some h0
  exact r_baload hd h1 h2 h
theorem q_aaload {a b : Nat} {i : Int32} (h0 : paR S a i = some b) (hd : decode (uC u) pc = .ok (.aaload, 1)) (h : Run g l u Q (pc + 1) lv (.ref b :: st) k n S) : Run g l u Q pc lv (.int i :: .ref a :: st) k n S := by
  obtain ⟨⟨h1, h2⟩, h3⟩ := if_opt h0
  exact r_aaload hd h1 h2 h3 h
theorem q_laload {a : Nat} {i : Int32} {x : Int64} (h0 : paJ S a i = some x) (hd : decode (uC u) pc = .ok (.laload, 1)) (h : Run g l u Q (pc + 1) lv (.long x :: st) k n S) : Run g l u Q pc lv (.int i :: .ref a :: st) k n S := by
  obtain ⟨⟨h1, h2⟩, rfl⟩ := if_some h0
  exact r_laload hd h1 h2 h
theorem q_daload {a : Nat} {i : Int32} {x : UInt64} (h0 : paD S a i = some x) (hd : decode (uC u) pc = .ok (.daload, 1)) (h : Run g l u Q (pc + 1) lv (.double x :: st) k n S) : Run g l u Q pc lv (.int i :: .ref a :: st) k n S := by
  obtain ⟨⟨h1, h2⟩, rfl⟩ := if_some h0
  exact r_daload hd h1 h2 h
theorem q_iastore {a : Nat} {i x : Int32} (h0 : psI S a i x = some S1) (hd : decode (uC u) pc = .ok (.iastore, 1)) (h : Run g l u Q (pc + 1) lv st k n S1) : Run g l u Q pc lv (.int x :: .int i :: .ref a :: st) k n S := by
  obtain ⟨⟨h1, h2⟩, rfl⟩ := if_some h0
  exact r_iastore hd h1 h2 h
theorem q_bastore {a : Nat} {i x : Int32} (h0 : psZ S a i x = some S1) (hd : decode (uC u) pc = .ok (.bastore, 1)) (h : Run g l u Q (pc + 1) lv st k n S1) : Run g l u Q pc lv (.int x :: .int i :: .ref a :: st) k n S := by
  obtain ⟨⟨⟨h1, h2⟩, h3⟩, rfl⟩ := if_some h0
  exact r_bastore hd h1 h2 h3 h
theorem q_aastore {a b : Nat} {i : Int32} (h0 : psR S a i b = some S1) (hd : decode (uC u) pc = .ok (.aastore, 1)) (h : Run g l u Q (pc + 1) lv st k n S1) : Run g l u Q pc lv (.ref b :: .int i :: .ref a :: st) k n S := by
  obtain ⟨⟨⟨h1, h2⟩, h3⟩, rfl⟩ := if_some h0
  exact r_aastore hd h1 h3 h2 h
theorem q_lastore {a : Nat} {i : Int32} {x : Int64} (h0 : psJ S a i x = some S1) (hd : decode (uC u) pc = .ok (.lastore, 1)) (h : Run g l u Q (pc + 1) lv st k n S1) : Run g l u Q pc lv (.long x :: .int i :: .ref a :: st) k n S := by
  obtain ⟨⟨h1, h2⟩, rfl⟩ := if_some h0
  exact r_lastore hd h1 h2 h
theorem q_dastore {a : Nat} {i : Int32} {x : UInt64} (h0 : psD S a i x = some S1) (hd : decode (uC u) pc = .ok (.dastore, 1)) (h : Run g l u Q (pc + 1) lv st k n S1) : Run g l u Q pc lv (.double x :: .int i :: .ref a :: st) k n S := by
  obtain ⟨⟨h1, h2⟩, rfl⟩ := if_some h0
  exact r_dastore hd h1 h2 h
theorem q_letters {i x : Int32} (h0 : ptL i = some x) (hd : decode (uC u) pc = .ok (.iaload, 1)) (h : Run g l u Q (pc + 1) lv (.int x :: st) k n S) : Run g l u Q pc lv (.int i :: .ref g.2.2.1 :: st) k n S := by
  obtain ⟨h1, h2⟩ := if_some h0
  exact r_lettersN (idx := 0) hd h1 h2 h
theorem q_idiv {x y z : Int32} (h0 : pdiv x y = some z) (hd : decode (uC u) pc = .ok (.idiv, 1)) (h : Run g l u Q (pc + 1) lv (.int z :: st) k n S) : Run g l u Q pc lv (.int y :: .int x :: st) k n S := by
  unfold pdiv at h0
  by_cases hy : y = 0
  · rw [if_pos hy] at h0; cases h0
  · rw [if_neg hy] at h0
    cases h0
    exact r_idiv hd hy h
theorem q_irem {x y z : Int32} (h0 : prem x y = some z) (hd : decode (uC u) pc = .ok (.irem, 1)) (h : Run g l u Q (pc + 1) lv (.int z :: st) k n S) : Run g l u Q pc lv (.int y :: .int x :: st) k n S := by
  unfold prem at h0
  by_cases hy : y = 0
  · rw [if_pos hy] at h0; cases h0
  · rw [if_neg hy] at h0
    cases h0
    exact r_irem hd hy h
theorem q_fadd {x y z : UInt32} (h0 : pfadd x y = some z) (hd : decode (uC u) pc = .ok (.fadd, 1)) (h : Run g l u Q (pc + 1) lv (.float z :: st) k n S) : Run g l u Q pc lv (.float y :: .float x :: st) k n S := by
  obtain ⟨h1, rfl⟩ := if_some h0
  exact r_fadd hd h1 h
theorem q_fmul {x y z : UInt32} (h0 : pfmul x y = some z) (hd : decode (uC u) pc = .ok (.fmul, 1)) (h : Run g l u Q (pc + 1) lv (.float z :: st) k n S) : Run g l u Q pc lv (.float y :: .float x :: st) k n S := by
  obtain ⟨h1, rfl⟩ := if_some h0
  exact r_fmul hd h1 h
theorem q_fdiv {x y z : UInt32} (h0 : pfdiv x y = some z) (hd : decode (uC u) pc = .ok (.fdiv, 1)) (h : Run g l u Q (pc + 1) lv (.float z :: st) k n S) : Run g l u Q pc lv (.float y :: .float x :: st) k n S := by
  obtain ⟨h1, rfl⟩ := if_some h0
  exact r_fdiv hd h1 h
theorem q_copy {idx a b : Nat} {sp dp cn : Int32} (h0 : pcp S a sp b dp cn = some S1) (hd : decode (uC u) pc = .ok (.invokestatic idx, 3)) (h1 : Cond.methodLink (uY u).cls idx arraycopyName ∈ lw_tbl) (hf : 1 ≤ (uR u).frames) (hlo : (st.map fun v => v.category).sum + (nativeFrameWords "java/lang/System" "arraycopy" 5 + 11) ≤ (uR u).locals)
    (h : Run g l u Q (pc + 3) lv st k n S1) : Run g l u Q pc lv (.int cn :: .int dp :: .ref b :: .int sp :: .ref a :: st) k n S := by
  obtain ⟨⟨⟨p1, p2⟩, ⟨p3, p4, p5⟩, p6, p7⟩, rfl⟩ := if_some h0
  exact r_copy hd h1 hf hlo p1 p2 p3 p4 p5 p6 p7 h
end RP
end
section
/-! a float by a wide index; switches -/
section RW9
variable {g : GG} {l : Launch} {u u2 : MU} {Q : FQ} {pc : Nat} {lv : List (Nat × Value)} {st : List Value} {k n : Nat} {S S1 : Mem}
theorem r_ldcfw {index : Nat} {v : UInt32} (hd : decode (uC u) pc = .ok (.ldc_w index, 3)) (hm : Cond.constantFloat (uY u).cls index v ∈ lw_tbl) (h : Run g l u Q (pc + 3) lv (.float v :: st) k n S) : Run g l u Q pc lv st k n S := by
  intro p e s m args below meth c A H locs ls C hW hS hl T hT X
  obtain ⟨t, a, b⟩ := h p e s m args below meth c A H locs ls C hW hS hl T hT X
  refine ⟨t, ?_, b⟩
  obtain ⟨kc, cf, hk, hcf, hcp⟩ := Cond.constantFloat_spec C.2.2.2.2.1 (Cx_w C hm rfl)
  obtain ⟨k', hk', he⟩ := X.warmed.alike.2.2 _ _ hk
  have hd' : decode c.code pc = .ok (.ldc_w index, 3) := by rw [C.2.1]; exact hd
  jvm_step X.here [X.here.top, C.1, hd', ldc_w.wp_float (s := T) (f := F0 m pc ls st) X.here.top hk' (by rw [he]; exact hcf) hcp]
  exact a
theorem r_tsIn {dflt lo hi : Int} {offs : Array Int} {len tgt : Nat} {x : Int32} {j off : Int} (hd : decode (uC u) pc = .ok (.tableswitch dflt lo hi offs, len)) (h1 : lo ≤ j) (h2 : j ≤ hi) (hx : x.toInt = j) (ho : offs[(j - lo).toNat]? = some off) (ht : (pc : Int) + off = (tgt : Int))
    (h : Run g l u Q tgt lv st k n S) : Run g l u Q pc lv (.int x :: st) k n S :=
  fun p e s m args below meth c A H locs ls C hW hS hl => lv_tableIn C.1 C.2.1 hd (by omega) (by omega) (by rw [hx]; exact ho) ht (h p e s m args below meth c A H locs ls C hW hS hl)
theorem r_tsOut {dflt lo hi : Int} {offs : Array Int} {len tgt : Nat} {x : Int32} (hd : decode (uC u) pc = .ok (.tableswitch dflt lo hi offs, len)) (hx : x.toInt < lo ∨ hi < x.toInt) (ht : (pc : Int) + dflt = (tgt : Int))
    (h : Run g l u Q tgt lv st k n S) : Run g l u Q pc lv (.int x :: st) k n S :=
  fun p e s m args below meth c A H locs ls C hW hS hl => lv_tableOut C.1 C.2.1 hd hx ht (h p e s m args below meth c A H locs ls C hW hS hl)
end RW9
theorem ne_toInt {x y : Int32} (h : ¬ x = y) : x.toInt ≠ y.toInt := fun q => h (Int32.toInt_inj.mp q)
end
section
def uX3_init : MU := (yX3_init, cX3_init, 1, none, { frames := 1, cells := 1, slots := 160, locals := 20 }, [], true)
def uX4_init : MU := (yX4_init, cX4_init, 1, none, { frames := 1, cells := 6, slots := 38, locals := 20 }, [], true)
def uX2_init : MU := (yX2_init, cX2_init, 2, none, { frames := 2, cells := 169, slots := 1152, locals := 40 }, [], true)
def uX1_init : MU := (yX1_init, cX1_init, 1, none, { frames := 2, cells := 22, slots := 145, locals := 40 }, [], true)
def uX0_init : MU := (yX0_init, cX0_init, 1, none, { frames := 1, cells := 1, slots := 120, locals := 20 }, [], true)
def uX5_init : MU := (yX5_init, cX5_init, 1, none, { frames := 3, cells := 213, slots := 1805, locals := 61 }, [], true)
def uX5_baseOf : MU := (yX5_baseOf, cX5_baseOf, 4, (some .int), { frames := 0, cells := 0, slots := 0, locals := 0 }, [], false)
def uX3_append : MU := (yX3_append, cX3_append, 5, none, { frames := 1, cells := 0, slots := 0, locals := 23 }, [], false)
def uX5_reference : MU := (yX5_reference, cX5_reference, 4, (some .int), { frames := 6, cells := 1, slots := 6, locals := 92 }, [], false)
def uX3_covers : MU := (yX3_covers, cX3_covers, 3, (some .boolean), { frames := 0, cells := 0, slots := 0, locals := 0 }, [], false)
def uX4_fillLikelihoods : MU := (yX4_fillLikelihoods, cX4_fillLikelihoods, 3, none, { frames := 0, cells := 0, slots := 0, locals := 0 }, [], false)
def uX4_clear : MU := (yX4_clear, cX4_clear, 2, none, { frames := 1, cells := 0, slots := 0, locals := 22 }, [], false)
def uX3_packed : MU := (yX3_packed, cX3_packed, 5, (some .int), { frames := 0, cells := 0, slots := 0, locals := 0 }, [], false)
def uX4_appendAllele : MU := (yX4_appendAllele, cX4_appendAllele, 3, none, { frames := 0, cells := 0, slots := 0, locals := 0 }, [], false)
def uX5_draft : MU := (yX5_draft, cX5_draft, 3, none, { frames := 6, cells := 1, slots := 6, locals := 92 }, [], false)
def uX5_lowBases : MU := (yX5_lowBases, cX5_lowBases, 1, (some .int), { frames := 0, cells := 0, slots := 0, locals := 0 }, [], false)
def uX4_find : MU := (yX4_find, cX4_find, 4, (some .int), { frames := 0, cells := 0, slots := 0, locals := 0 }, [], false)
def uX5_allele : MU := (yX5_allele, cX5_allele, 5, (some .int), { frames := 6, cells := 1, slots := 6, locals := 92 }, [], false)
def uX4_hasAllele : MU := (yX4_hasAllele, cX4_hasAllele, 2, (some .boolean), { frames := 0, cells := 0, slots := 0, locals := 0 }, [], false)
def uX5_isWithin : MU := (yX5_isWithin, cX5_isWithin, 2, (some .boolean), { frames := 0, cells := 0, slots := 0, locals := 0 }, [], false)
def uX5_depth : MU := (yX5_depth, cX5_depth, 4, none, { frames := 6, cells := 1, slots := 6, locals := 92 }, [], false)
def uX5_isSample : MU := (yX5_isSample, cX5_isSample, 1, (some .boolean), { frames := 0, cells := 0, slots := 0, locals := 0 }, [], false)
def uX4_allowsInGenotype : MU := (yX4_allowsInGenotype, cX4_allowsInGenotype, 2, (some .boolean), { frames := 1, cells := 0, slots := 0, locals := 21 }, [], false)
def uX5_genotype : MU := (yX5_genotype, cX5_genotype, 5, none, { frames := 6, cells := 1, slots := 6, locals := 92 }, [], false)
def uX4_pairs : MU := (yX4_pairs, cX4_pairs, 1, (some .int), { frames := 0, cells := 0, slots := 0, locals := 0 }, [], false)
def uX5_likelihood : MU := (yX5_likelihood, cX5_likelihood, 4, none, { frames := 6, cells := 1, slots := 6, locals := 92 }, [], false)
def uX2_isFull : MU := (yX2_isFull, cX2_isFull, 1, (some .boolean), { frames := 0, cells := 0, slots := 0, locals := 0 }, [], false)
def uX2_open : MU := (yX2_open, cX2_open, 4, (some (.object "VariantKit$Variant")), { frames := 0, cells := 0, slots := 0, locals := 0 }, [], false)
def uX4_copy : MU := (yX4_copy, cX4_copy, 3, none, { frames := 1, cells := 0, slots := 0, locals := 48 }, [], false)
def uX2_insert : MU := (yX2_insert, cX2_insert, 3, (some .int), { frames := 2, cells := 0, slots := 0, locals := 70 }, [], false)
def uX5_add : MU := (yX5_add, cX5_add, 1, (some .int), { frames := 6, cells := 1, slots := 6, locals := 92 }, [], false)
def uX5_requireRecord : MU := (yX5_requireRecord, cX5_requireRecord, 2, none, { frames := 6, cells := 1, slots := 6, locals := 92 }, [], false)
def uX2_close : MU := (yX2_close, cX2_close, 4, none, { frames := 0, cells := 0, slots := 0, locals := 0 }, [], false)
def uX5_remove : MU := (yX5_remove, cX5_remove, 2, none, { frames := 7, cells := 1, slots := 6, locals := 113 }, [], false)
def uX4_isLastBaseShared : MU := (yX4_isLastBaseShared, cX4_isLastBaseShared, 2, (some .boolean), { frames := 0, cells := 0, slots := 0, locals := 0 }, [], false)
def uX4_shortest : MU := (yX4_shortest, cX4_shortest, 3, (some .int), { frames := 1, cells := 0, slots := 0, locals := 21 }, [], false)
def uX4_putInFront : MU := (yX4_putInFront, cX4_putInFront, 3, none, { frames := 0, cells := 0, slots := 0, locals := 0 }, [], false)
def uX4_trimEnd : MU := (yX4_trimEnd, cX4_trimEnd, 3, (some .boolean), { frames := 2, cells := 0, slots := 0, locals := 43 }, [], false)
def uX4_isFirstBaseShared : MU := (yX4_isFirstBaseShared, cX4_isFirstBaseShared, 3, (some .boolean), { frames := 1, cells := 0, slots := 0, locals := 23 }, [], false)
def uX4_trimFront : MU := (yX4_trimFront, cX4_trimFront, 2, (some .boolean), { frames := 2, cells := 0, slots := 0, locals := 45 }, [], false)
def uX4_trim : MU := (yX4_trim, cX4_trim, 4, none, { frames := 3, cells := 0, slots := 0, locals := 66 }, [], false)
def uX5_normalise : MU := (yX5_normalise, cX5_normalise, 2, (some .int), { frames := 7, cells := 1, slots := 6, locals := 113 }, [], false)
def uX4_appendAlleleOf : MU := (yX4_appendAlleleOf, cX4_appendAlleleOf, 3, none, { frames := 1, cells := 0, slots := 0, locals := 22 }, [], false)
def uX5_pairNumber : MU := (yX5_pairNumber, cX5_pairNumber, 4, (some .int), { frames := 1, cells := 0, slots := 0, locals := 21 }, [], false)
def uX4_becomePart : MU := (yX4_becomePart, cX4_becomePart, 5, none, { frames := 2, cells := 0, slots := 0, locals := 44 }, [], false)
def uX5_split : MU := (yX5_split, cX5_split, 4, (some .int), { frames := 7, cells := 2, slots := 12, locals := 113 }, [], false)
def uX4_lengthenLike : MU := (yX4_lengthenLike, cX4_lengthenLike, 5, none, { frames := 1, cells := 0, slots := 0, locals := 20 }, [], false)
def uX4_hasTooLongAllele : MU := (yX4_hasTooLongAllele, cX4_hasTooLongAllele, 2, (some .boolean), { frames := 0, cells := 0, slots := 0, locals := 0 }, [], false)
def uX1_uniteAlleles : MU := (yX1_uniteAlleles, cX1_uniteAlleles, 3, (some .boolean), { frames := 2, cells := 0, slots := 0, locals := 44 }, [], false)
def uX1_uniteDepths : MU := (yX1_uniteDepths, cX1_uniteDepths, 4, none, { frames := 1, cells := 0, slots := 0, locals := 21 }, [], false)
def uX1_unitedAllele : MU := (yX1_unitedAllele, cX1_unitedAllele, 3, (some .int), { frames := 0, cells := 0, slots := 0, locals := 0 }, [], false)
def uX1_uniteGenotypes : MU := (yX1_uniteGenotypes, cX1_uniteGenotypes, 2, none, { frames := 1, cells := 0, slots := 0, locals := 22 }, [], false)
def uX1_uniteLikelihoods : MU := (yX1_uniteLikelihoods, cX1_uniteLikelihoods, 7, none, { frames := 2, cells := 0, slots := 0, locals := 48 }, [], false)
def uX1_unite : MU := (yX1_unite, cX1_unite, 3, (some .boolean), { frames := 3, cells := 0, slots := 0, locals := 74 }, [], false)
def uX5_join : MU := (yX5_join, cX5_join, 2, none, { frames := 7, cells := 2, slots := 12, locals := 113 }, [], false)
def uX0_put : MU := (yX0_put, cX0_put, 2, none, { frames := 0, cells := 0, slots := 0, locals := 0 }, [], false)
def uX0_putNumber : MU := (yX0_putNumber, cX0_putNumber, 3, none, { frames := 1, cells := 0, slots := 0, locals := 21 }, [], false)
def uX0_putAllele : MU := (yX0_putAllele, cX0_putAllele, 4, none, { frames := 1, cells := 0, slots := 0, locals := 23 }, [], false)
def uX0_putNumbers : MU := (yX0_putNumbers, cX0_putNumbers, 6, none, { frames := 2, cells := 0, slots := 0, locals := 43 }, [], false)
def uX0_putVariant : MU := (yX0_putVariant, cX0_putVariant, 4, none, { frames := 3, cells := 0, slots := 0, locals := 68 }, [], false)
def uX5_written : MU := (yX5_written, cX5_written, 3, (some .int), { frames := 7, cells := 2, slots := 12, locals := 113 }, [], false)
def uX5_type : MU := (yX5_type, cX5_type, 5, none, { frames := 6, cells := 1, slots := 6, locals := 92 }, [], false)
def uX0_take : MU := (yX0_take, cX0_take, 1, (some .int), { frames := 0, cells := 0, slots := 0, locals := 0 }, [], false)
def uX0_takeNumber : MU := (yX0_takeNumber, cX0_takeNumber, 3, (some .int), { frames := 1, cells := 0, slots := 0, locals := 20 }, [], false)
def uX0_takeBases : MU := (yX0_takeBases, cX0_takeBases, 7, (some .int), { frames := 1, cells := 0, slots := 0, locals := 20 }, [], false)
def uX0_takeAlleles : MU := (yX0_takeAlleles, cX0_takeAlleles, 7, (some .boolean), { frames := 2, cells := 0, slots := 0, locals := 46 }, [], false)
def uX0_takeNumbers : MU := (yX0_takeNumbers, cX0_takeNumbers, 7, (some .boolean), { frames := 2, cells := 0, slots := 0, locals := 42 }, [], false)
def uX0_takeGenotype : MU := (yX0_takeGenotype, cX0_takeGenotype, 5, (some .boolean), { frames := 2, cells := 0, slots := 0, locals := 42 }, [], false)
def uX0_takeVariant : MU := (yX0_takeVariant, cX0_takeVariant, 5, (some .boolean), { frames := 3, cells := 0, slots := 0, locals := 72 }, [], false)
def uX0_isSame : MU := (yX0_isSame, cX0_isSame, 3, (some .boolean), { frames := 0, cells := 0, slots := 0, locals := 0 }, [], false)
def uX5_takeTyped : MU := (yX5_takeTyped, cX5_takeTyped, 1, (some .boolean), { frames := 4, cells := 0, slots := 0, locals := 96 }, [], false)
def uX5_read : MU := (yX5_read, cX5_read, 3, (some .int), { frames := 6, cells := 1, slots := 6, locals := 116 }, [], false)
def uX5_records : MU := (yX5_records, cX5_records, 1, (some .int), { frames := 0, cells := 0, slots := 0, locals := 0 }, [], false)
def uX4_lastPlace : MU := (yX4_lastPlace, cX4_lastPlace, 1, (some .int), { frames := 0, cells := 0, slots := 0, locals := 0 }, [], false)
def uX4_bin : MU := (yX4_bin, cX4_bin, 2, (some .int), { frames := 1, cells := 0, slots := 0, locals := 20 }, [], false)
def uX5_about : MU := (yX5_about, cX5_about, 4, (some .int), { frames := 7, cells := 2, slots := 12, locals := 113 }, [], false)
def uX5_base : MU := (yX5_base, cX5_base, 6, (some .int), { frames := 7, cells := 2, slots := 12, locals := 113 }, [], false)
def uX5_requireRegion : MU := (yX5_requireRegion, cX5_requireRegion, 2, none, { frames := 6, cells := 1, slots := 6, locals := 92 }, [], false)
def uX4_spansOneOf : MU := (yX4_spansOneOf, cX4_spansOneOf, 3, (some .boolean), { frames := 1, cells := 0, slots := 0, locals := 20 }, [], false)
def uX5_found : MU := (yX5_found, cX5_found, 5, (some .int), { frames := 7, cells := 1, slots := 6, locals := 113 }, [], false)
def uX5_mean : MU := (yX5_mean, cX5_mean, 6, (some .float), { frames := 7, cells := 2, slots := 12, locals := 113 }, [], false)
def uX6_init : MU := (yX6_init, cX6_init, 1, none, { frames := 1, cells := 5, slots := 1660, locals := 20 }, [], true)
def uX6_thrown : MU := (yX6_thrown, cX6_thrown, 1, (some .int), { frames := 0, cells := 0, slots := 0, locals := 0 }, [], false)
def uX6_throwing : MU := (yX6_throwing, cX6_throwing, 3, (some .boolean), { frames := 0, cells := 0, slots := 0, locals := 0 }, [], false)
def uX6_out : MU := (yX6_out, cX6_out, 2, (some .boolean), { frames := 0, cells := 0, slots := 0, locals := 0 }, [], false)
def uX6_get : MU := (yX6_get, cX6_get, 3, (some .int), { frames := 0, cells := 0, slots := 0, locals := 0 }, [], false)
def uX6_put : MU := (yX6_put, cX6_put, 4, none, { frames := 0, cells := 0, slots := 0, locals := 0 }, [], false)
def uX6_copy : MU := (yX6_copy, cX6_copy, 4, none, { frames := 0, cells := 0, slots := 0, locals := 0 }, [], false)
def uX6_empty : MU := (yX6_empty, cX6_empty, 4, none, { frames := 1, cells := 0, slots := 0, locals := 23 }, [], false)
def uX6_addAllele : MU := (yX6_addAllele, cX6_addAllele, 5, none, { frames := 1, cells := 0, slots := 0, locals := 23 }, [], false)
def uX6_findAllele : MU := (yX6_findAllele, cX6_findAllele, 5, (some .int), { frames := 1, cells := 0, slots := 0, locals := 22 }, [], false)
def uX6_referenceFrom : MU := (yX6_referenceFrom, cX6_referenceFrom, 5, (some .int), { frames := 0, cells := 0, slots := 0, locals := 0 }, [], false)
def uX6_pair : MU := (yX6_pair, cX6_pair, 2, (some .int), { frames := 0, cells := 0, slots := 0, locals := 0 }, [], false)
def uX6_pairs : MU := (yX6_pairs, cX6_pairs, 1, (some .int), { frames := 0, cells := 0, slots := 0, locals := 0 }, [], false)
def uX6_reference : MU := (yX6_reference, cX6_reference, 6, (some .int), { frames := 1, cells := 0, slots := 0, locals := 22 }, [], false)
def uX6_draft : MU := (yX6_draft, cX6_draft, 4, none, { frames := 2, cells := 0, slots := 0, locals := 47 }, [], false)
def uX6_allele : MU := (yX6_allele, cX6_allele, 6, (some .int), { frames := 2, cells := 0, slots := 0, locals := 47 }, [], false)
def uX6_depth : MU := (yX6_depth, cX6_depth, 4, none, { frames := 1, cells := 0, slots := 0, locals := 23 }, [], false)
def uX6_genotype : MU := (yX6_genotype, cX6_genotype, 6, none, { frames := 1, cells := 0, slots := 0, locals := 23 }, [], false)
def uX6_likelihood : MU := (yX6_likelihood, cX6_likelihood, 4, none, { frames := 1, cells := 0, slots := 0, locals := 23 }, [], false)
def uX6_open : MU := (yX6_open, cX6_open, 3, none, { frames := 1, cells := 0, slots := 0, locals := 23 }, [], false)
def uX6_enter : MU := (yX6_enter, cX6_enter, 3, (some .int), { frames := 2, cells := 0, slots := 0, locals := 45 }, [], false)
def uX6_add : MU := (yX6_add, cX6_add, 1, (some .int), { frames := 3, cells := 0, slots := 0, locals := 67 }, [], false)
def uX6_close : MU := (yX6_close, cX6_close, 3, none, { frames := 1, cells := 0, slots := 0, locals := 23 }, [], false)
def uX6_remove : MU := (yX6_remove, cX6_remove, 2, none, { frames := 2, cells := 0, slots := 0, locals := 45 }, [], false)
def uX6_shortest : MU := (yX6_shortest, cX6_shortest, 4, (some .int), { frames := 1, cells := 0, slots := 0, locals := 22 }, [], false)
def uX6_edge : MU := (yX6_edge, cX6_edge, 5, (some .int), { frames := 1, cells := 0, slots := 0, locals := 22 }, [], false)
def uX6_same : MU := (yX6_same, cX6_same, 5, (some .boolean), { frames := 2, cells := 0, slots := 0, locals := 46 }, [], false)
def uX6_step : MU := (yX6_step, cX6_step, 9, (some .boolean), { frames := 3, cells := 0, slots := 0, locals := 70 }, [], false)
def uX6_normalise : MU := (yX6_normalise, cX6_normalise, 3, (some .int), { frames := 4, cells := 0, slots := 0, locals := 98 }, [], false)
def uX6_part : MU := (yX6_part, cX6_part, 6, none, { frames := 2, cells := 0, slots := 0, locals := 47 }, [], false)
def uX6_split : MU := (yX6_split, cX6_split, 5, (some .int), { frames := 3, cells := 0, slots := 0, locals := 72 }, [], false)
def uX6_gather : MU := (yX6_gather, cX6_gather, 9, (some .boolean), { frames := 2, cells := 0, slots := 0, locals := 47 }, [], false)
def uX6_back : MU := (yX6_back, cX6_back, 5, (some .int), { frames := 1, cells := 0, slots := 0, locals := 22 }, [], false)
def uX6_likely : MU := (yX6_likely, cX6_likely, 8, (some .int), { frames := 2, cells := 0, slots := 0, locals := 46 }, [], false)
def uX6_joinSample : MU := (yX6_joinSample, cX6_joinSample, 8, none, { frames := 3, cells := 0, slots := 0, locals := 73 }, [], false)
def uX6_join : MU := (yX6_join, cX6_join, 14, none, { frames := 4, cells := 0, slots := 0, locals := 100 }, [], false)
def uX6_write : MU := (yX6_write, cX6_write, 2, none, { frames := 0, cells := 0, slots := 0, locals := 0 }, [], false)
def uX6_writeRow : MU := (yX6_writeRow, cX6_writeRow, 6, none, { frames := 1, cells := 0, slots := 0, locals := 22 }, [], false)
def uX6_letter : MU := (yX6_letter, cX6_letter, 1, (some .int), { frames := 0, cells := 0, slots := 0, locals := 0 }, [], false)
def uX6_writeOut : MU := (yX6_writeOut, cX6_writeOut, 6, none, { frames := 2, cells := 0, slots := 0, locals := 47 }, [], false)
def uX6_written : MU := (yX6_written, cX6_written, 4, (some .int), { frames := 3, cells := 0, slots := 0, locals := 72 }, [], false)
def uX6_type : MU := (yX6_type, cX6_type, 6, none, { frames := 1, cells := 0, slots := 0, locals := 22 }, [], false)
def uX6_byteAt : MU := (yX6_byteAt, cX6_byteAt, 2, (some .int), { frames := 0, cells := 0, slots := 0, locals := 0 }, [], false)
def uX6_twoAt : MU := (yX6_twoAt, cX6_twoAt, 2, (some .int), { frames := 1, cells := 0, slots := 0, locals := 21 }, [], false)
def uX6_readRow : MU := (yX6_readRow, cX6_readRow, 6, (some .int), { frames := 2, cells := 0, slots := 0, locals := 42 }, [], false)
def uX6_baseOf : MU := (yX6_baseOf, cX6_baseOf, 1, (some .int), { frames := 0, cells := 0, slots := 0, locals := 0 }, [], false)
def uX6_inRange : MU := (yX6_inRange, cX6_inRange, 5, (some .boolean), { frames := 1, cells := 0, slots := 0, locals := 24 }, [], false)
def uX6_taken : MU := (yX6_taken, cX6_taken, 7, (some .boolean), { frames := 3, cells := 0, slots := 0, locals := 67 }, [], false)
def uX6_read : MU := (yX6_read, cX6_read, 4, (some .int), { frames := 4, cells := 0, slots := 0, locals := 93 }, [], false)
def uX6_records : MU := (yX6_records, cX6_records, 1, (some .int), { frames := 0, cells := 0, slots := 0, locals := 0 }, [], false)
def uX6_binOf : MU := (yX6_binOf, cX6_binOf, 4, (some .int), { frames := 1, cells := 0, slots := 0, locals := 22 }, [], false)
def uX6_about : MU := (yX6_about, cX6_about, 3, (some .int), { frames := 2, cells := 0, slots := 0, locals := 45 }, [], false)
def uX6_base : MU := (yX6_base, cX6_base, 6, (some .int), { frames := 1, cells := 0, slots := 0, locals := 22 }, [], false)
def uX6_isBad : MU := (yX6_isBad, cX6_isBad, 3, (some .boolean), { frames := 0, cells := 0, slots := 0, locals := 0 }, [], false)
def uX6_spans : MU := (yX6_spans, cX6_spans, 4, (some .boolean), { frames := 1, cells := 0, slots := 0, locals := 22 }, [], false)
def uX6_found : MU := (yX6_found, cX6_found, 5, (some .int), { frames := 2, cells := 0, slots := 0, locals := 45 }, [], false)
def uX6_mean : MU := (yX6_mean, cX6_mean, 7, (some .float), { frames := 2, cells := 0, slots := 0, locals := 45 }, [], false)
theorem mt1 {w : Cond} (i : Nat) (h : tables_1_1[i]? = some w) : w ∈ lw_tbl := List.mem_append_right _ (List.mem_append_left _ (List.mem_of_getElem? h))
theorem mt2 {w : Cond} (i : Nat) (h : tables_1_2[i]? = some w) : w ∈ lw_tbl := List.mem_append_right _ (List.mem_append_right _ (List.mem_append_left _ (List.mem_of_getElem? h)))
theorem mt3 {w : Cond} (i : Nat) (h : tables_1_3[i]? = some w) : w ∈ lw_tbl := List.mem_append_right _ (List.mem_append_right _ (List.mem_append_right _ (List.mem_append_left _ (List.mem_of_getElem? h))))
theorem mt4 {w : Cond} (i : Nat) (h : tables_1_4[i]? = some w) : w ∈ lw_tbl := List.mem_append_right _ (List.mem_append_right _ (List.mem_append_right _ (List.mem_append_right _ (List.mem_append_left _ (List.mem_of_getElem? h)))))
theorem mt5 {w : Cond} (i : Nat) (h : tables_1_5[i]? = some w) : w ∈ lw_tbl := List.mem_append_right _ (List.mem_append_right _ (List.mem_append_right _ (List.mem_append_right _ (List.mem_append_right _ (List.mem_of_getElem? h)))))
theorem mts {w : Cond} (i : Nat) (h : (k2_sels lw_privs)[i]? = some w) : w ∈ lw_tbl := List.mem_append_left _ (List.mem_of_getElem? h)
theorem wo3_3 : Cond.methodLink RX3 3 objectInit ∈ lw_tbl := (mt1 30 rfl)
theorem ff3_9 : FF RX3 9 3 0 (.array (.int)) := ⟨_, _, _, _, cf3, by decide, rfl, rfl, rfl, (mt1 31 rfl)⟩
theorem fl3_15 : FL RX3 15 3 1 false (.int) := ⟨_, _, _, _, cf3, by decide, rfl, rfl, Or.inl (mt1 32 rfl)⟩
theorem wo4_3 : Cond.methodLink RX4 3 objectInit ∈ lw_tbl := (mt1 52 rfl)
theorem ff4_9 : FF RX4 9 4 3 (.array (.int)) := ⟨_, _, _, _, cf4, by decide, rfl, rfl, rfl, (mt1 65 rfl)⟩
theorem ff4_15 : FF RX4 15 4 4 (.array (.int)) := ⟨_, _, _, _, cf4, by decide, rfl, rfl, rfl, (mt1 69 rfl)⟩
theorem ff4_18 : FF RX4 18 4 5 (.array (.int)) := ⟨_, _, _, _, cf4, by decide, rfl, rfl, rfl, (mt1 73 rfl)⟩
theorem ff4_21 : FF RX4 21 4 6 (.array (.int)) := ⟨_, _, _, _, cf4, by decide, rfl, rfl, rfl, (mt1 77 rfl)⟩
theorem ff4_24 : FF RX4 24 4 7 (.array (.boolean)) := ⟨_, _, _, _, cf4, by decide, rfl, rfl, rfl, (mt1 81 rfl)⟩
theorem ff4_28 : FF RX4 28 4 8 (.array (.int)) := ⟨_, _, _, _, cf4, by decide, rfl, rfl, rfl, (mt1 85 rfl)⟩
theorem wo1_3 : Cond.methodLink RX1 3 objectInit ∈ lw_tbl := (mt1 125 rfl)
theorem no1_9 : NO RX1 9 4 := ⟨_, _, _, _, cf4, (mt1 126 rfl), (mt1 48 rfl), (mt1 4 rfl), by decide +kernel⟩
theorem li1_11 : LI RX1 11 uX4_init 0 := ⟨⟨(mt1 127 rfl), (mt1 4 rfl), by decide +kernel, by decide +kernel, (mt1 51 rfl)⟩, rfl, rfl, (mt1 50 rfl)⟩
theorem ff1_12 : FF RX1 12 1 0 (.object "VariantKit$Variant") := ⟨_, _, _, _, cf1, by decide, rfl, rfl, rfl, (mt1 128 rfl)⟩
theorem ff1_18 : FF RX1 18 1 1 (.object "VariantKit$Variant") := ⟨_, _, _, _, cf1, by decide, rfl, rfl, rfl, (mt1 129 rfl)⟩
theorem ff1_21 : FF RX1 21 1 2 (.object "VariantKit$Variant") := ⟨_, _, _, _, cf1, by decide, rfl, rfl, rfl, (mt1 130 rfl)⟩
theorem ff1_24 : FF RX1 24 1 3 (.array (.int)) := ⟨_, _, _, _, cf1, by decide, rfl, rfl, rfl, (mt1 132 rfl)⟩
theorem wo0_3 : Cond.methodLink RX0 3 objectInit ∈ lw_tbl := (mt1 147 rfl)
theorem ff0_9 : FF RX0 9 0 0 (.array (.int)) := ⟨_, _, _, _, cf0, by decide, rfl, rfl, rfl, (mt1 148 rfl)⟩
theorem fl0_15 : FL RX0 15 0 1 false (.int) := ⟨_, _, _, _, cf0, by decide, rfl, rfl, Or.inl (mt1 150 rfl)⟩
theorem fl0_19 : FL RX0 19 0 2 false (.int) := ⟨_, _, _, _, cf0, by decide, rfl, rfl, Or.inl (mt1 152 rfl)⟩
theorem wo5_1 : Cond.methodLink RX5 1 objectInit ∈ lw_tbl := (mt1 22 rfl)
theorem no5_7 : NO RX5 7 3 := ⟨_, _, _, _, cf3, (mt1 25 rfl), (mt1 26 rfl), (mt1 2 rfl), by decide +kernel⟩
theorem li5_9 : LI RX5 9 uX3_init 0 := ⟨⟨(mt1 27 rfl), (mt1 2 rfl), by decide +kernel, by decide +kernel, (mt1 29 rfl)⟩, rfl, rfl, (mt1 28 rfl)⟩
theorem ff5_10 : FF RX5 10 5 0 (.object "VariantKit$Reference") := ⟨_, _, _, _, cf5, by decide, rfl, rfl, rfl, (mt1 160 rfl)⟩
theorem no5_16 : NO RX5 16 2 := ⟨_, _, _, _, cf2, (mt1 40 rfl), (mt1 41 rfl), (mt1 3 rfl), by decide +kernel⟩
theorem li5_18 : LI RX5 18 uX2_init 0 := ⟨⟨(mt1 42 rfl), (mt1 3 rfl), by decide +kernel, by decide +kernel, (mt1 44 rfl)⟩, rfl, rfl, (mt1 43 rfl)⟩
theorem ff5_19 : FF RX5 19 5 1 (.object "VariantKit$RecordList") := ⟨_, _, _, _, cf5, by decide, rfl, rfl, rfl, (mt1 161 rfl)⟩
theorem no5_23 : NO RX5 23 4 := ⟨_, _, _, _, cf4, (mt1 118 rfl), (mt1 48 rfl), (mt1 4 rfl), by decide +kernel⟩
theorem li5_25 : LI RX5 25 uX4_init 0 := ⟨⟨(mt1 119 rfl), (mt1 4 rfl), by decide +kernel, by decide +kernel, (mt1 51 rfl)⟩, rfl, rfl, (mt1 50 rfl)⟩
theorem ff5_26 : FF RX5 26 5 2 (.object "VariantKit$Variant") := ⟨_, _, _, _, cf5, by decide, rfl, rfl, rfl, (mt1 162 rfl)⟩
theorem fl5_30 : FL RX5 30 5 3 false (.boolean) := ⟨_, _, _, _, cf5, by decide, rfl, rfl, Or.inl (mt1 163 rfl)⟩
theorem ff5_34 : FF RX5 34 5 4 (.object "VariantKit$Variant") := ⟨_, _, _, _, cf5, by decide, rfl, rfl, rfl, (mt1 164 rfl)⟩
theorem no5_37 : NO RX5 37 1 := ⟨_, _, _, _, cf1, (mt1 120 rfl), (mt1 121 rfl), (mt1 5 rfl), by decide +kernel⟩
theorem li5_39 : LI RX5 39 uX1_init 0 := ⟨⟨(mt1 122 rfl), (mt1 5 rfl), by decide +kernel, by decide +kernel, (mt1 124 rfl)⟩, rfl, rfl, (mt1 123 rfl)⟩
theorem ff5_40 : FF RX5 40 5 5 (.object "VariantKit$Joiner") := ⟨_, _, _, _, cf5, by decide, rfl, rfl, rfl, (mt1 165 rfl)⟩
theorem no5_44 : NO RX5 44 0 := ⟨_, _, _, _, cf0, (mt1 142 rfl), (mt1 143 rfl), (mt1 6 rfl), by decide +kernel⟩
theorem li5_46 : LI RX5 46 uX0_init 0 := ⟨⟨(mt1 144 rfl), (mt1 6 rfl), by decide +kernel, by decide +kernel, (mt1 146 rfl)⟩, rfl, rfl, (mt1 145 rfl)⟩
theorem ff5_47 : FF RX5 47 5 6 (.object "VariantKit$ByteRow") := ⟨_, _, _, _, cf5, by decide, rfl, rfl, rfl, (mt1 166 rfl)⟩
theorem ff5_51 : FF RX5 51 5 7 (.object "VariantKit$ByteRow") := ⟨_, _, _, _, cf5, by decide, rfl, rfl, rfl, (mt1 167 rfl)⟩
theorem fl3_9 : FL RX3 9 3 0 true (.array (.int)) := ⟨_, _, _, _, cf3, by decide, rfl, rfl, Or.inl (mt1 31 rfl)⟩
theorem ln3_19 : LN RX3 19 uX5_baseOf 3 := ⟨"VariantKit", (mt2 48 rfl), (mt1 1 rfl), by decide +kernel, by decide +kernel, (mt2 50 rfl), (mt2 49 rfl)⟩
theorem tw_54_58 : TW 54 58 "java/lang/IllegalArgumentException" := ⟨by decide +kernel, (mt1 198 rfl), (mt1 11 rfl), by decide +kernel⟩
theorem tw_65_69 : TW 65 69 "java/lang/IllegalStateException" := ⟨by decide +kernel, (mt2 27 rfl), (mt1 12 rfl), by decide +kernel⟩
theorem fl5_19 : FL RX5 19 5 1 true (.object "VariantKit$RecordList") := ⟨_, _, _, _, cf5, by decide, rfl, rfl, Or.inl (mt1 161 rfl)⟩
theorem fl5_61 : FL RX5 61 2 1 false (.int) := ⟨_, _, _, _, cf2, by decide, rfl, rfl, Or.inr ⟨"VariantKit", (mt1 112 rfl)⟩⟩
theorem fl5_10 : FL RX5 10 5 0 true (.object "VariantKit$Reference") := ⟨_, _, _, _, cf5, by decide, rfl, rfl, Or.inl (mt1 160 rfl)⟩
theorem fl5_70 : FL RX5 70 3 1 false (.int) := ⟨_, _, _, _, cf3, by decide, rfl, rfl, Or.inr ⟨"VariantKit", (mt1 33 rfl)⟩⟩
theorem lv5_75 : LV RX5 75 uX3_append 2 3 := ⟨⟨(mt2 44 rfl), (mt1 2 rfl), by decide +kernel, by decide +kernel, (mt2 47 rfl)⟩, (mt2 45 rfl), (mt2 46 rfl), by decide, _, _, rfl⟩
theorem fl4_28 : FL RX4 28 4 8 true (.array (.int)) := ⟨_, _, _, _, cf4, by decide, rfl, rfl, Or.inl (mt1 85 rfl)⟩
theorem lv4_41 : LV RX4 41 uX4_fillLikelihoods 1 4 := ⟨⟨(mt2 68 rfl), (mt1 4 rfl), by decide +kernel, by decide +kernel, (mt2 71 rfl)⟩, (mt2 69 rfl), (mt2 70 rfl), by decide, _, _, rfl⟩
theorem fl4_24 : FL RX4 24 4 7 true (.array (.boolean)) := ⟨_, _, _, _, cf4, by decide, rfl, rfl, Or.inl (mt1 81 rfl)⟩
theorem fl4_21 : FL RX4 21 4 6 true (.array (.int)) := ⟨_, _, _, _, cf4, by decide, rfl, rfl, Or.inl (mt1 77 rfl)⟩
theorem fl4_31 : FL RX4 31 4 0 false (.int) := ⟨_, _, _, _, cf4, by decide, rfl, rfl, Or.inl (mt1 53 rfl)⟩
theorem fl4_35 : FL RX4 35 4 1 false (.int) := ⟨_, _, _, _, cf4, by decide, rfl, rfl, Or.inl (mt1 57 rfl)⟩
theorem fl4_38 : FL RX4 38 4 2 false (.int) := ⟨_, _, _, _, cf4, by decide, rfl, rfl, Or.inl (mt1 61 rfl)⟩
theorem fl4_9 : FL RX4 9 4 3 true (.array (.int)) := ⟨_, _, _, _, cf4, by decide, rfl, rfl, Or.inl (mt1 65 rfl)⟩
theorem fl4_15 : FL RX4 15 4 4 true (.array (.int)) := ⟨_, _, _, _, cf4, by decide, rfl, rfl, Or.inl (mt1 69 rfl)⟩
theorem fl4_18 : FL RX4 18 4 5 true (.array (.int)) := ⟨_, _, _, _, cf4, by decide, rfl, rfl, Or.inl (mt1 73 rfl)⟩
theorem lv5_81 : LV RX5 81 uX3_covers 2 3 := ⟨⟨(mt2 59 rfl), (mt1 2 rfl), by decide +kernel, by decide +kernel, (mt2 62 rfl)⟩, (mt2 60 rfl), (mt2 61 rfl), by decide, _, _, rfl⟩
theorem fl5_26 : FL RX5 26 5 2 true (.object "VariantKit$Variant") := ⟨_, _, _, _, cf5, by decide, rfl, rfl, Or.inl (mt1 162 rfl)⟩
theorem lv5_87 : LV RX5 87 uX4_clear 0 4 := ⟨⟨(mt2 64 rfl), (mt1 4 rfl), by decide +kernel, by decide +kernel, (mt2 67 rfl)⟩, (mt2 65 rfl), (mt2 66 rfl), by decide, _, _, rfl⟩
theorem fl5_90 : FL RX5 90 4 0 false (.int) := ⟨_, _, _, _, cf4, by decide, rfl, rfl, Or.inr ⟨"VariantKit", (mt1 55 rfl)⟩⟩
theorem lv5_93 : LV RX5 93 uX3_packed 2 3 := ⟨⟨(mt2 72 rfl), (mt1 2 rfl), by decide +kernel, by decide +kernel, (mt2 75 rfl)⟩, (mt2 73 rfl), (mt2 74 rfl), by decide, _, _, rfl⟩
theorem lv5_97 : LV RX5 97 uX4_appendAllele 2 4 := ⟨⟨(mt2 76 rfl), (mt1 4 rfl), by decide +kernel, by decide +kernel, (mt2 79 rfl)⟩, (mt2 77 rfl), (mt2 78 rfl), by decide, _, _, rfl⟩
theorem fl5_105 : FL RX5 105 4 2 false (.int) := ⟨_, _, _, _, cf4, by decide, rfl, rfl, Or.inr ⟨"VariantKit", (mt1 64 rfl)⟩⟩
theorem ls5_110 : LSt RX5 110 uX5_lowBases 1 := ⟨⟨(mt2 90 rfl), (mt1 1 rfl), by decide +kernel, by decide +kernel, (mt2 92 rfl)⟩, (mt2 91 rfl)⟩
theorem lv5_114 : LV RX5 114 uX4_find 2 4 := ⟨⟨(mt2 93 rfl), (mt1 4 rfl), by decide +kernel, by decide +kernel, (mt2 96 rfl)⟩, (mt2 94 rfl), (mt2 95 rfl), by decide, _, _, rfl⟩
theorem lv5_119 : LV RX5 119 uX4_hasAllele 1 4 := ⟨⟨(mt2 105 rfl), (mt1 4 rfl), by decide +kernel, by decide +kernel, (mt2 108 rfl)⟩, (mt2 106 rfl), (mt2 107 rfl), by decide, _, _, rfl⟩
theorem ls5_125 : LSt RX5 125 uX5_isWithin 2 := ⟨⟨(mt2 110 rfl), (mt1 1 rfl), by decide +kernel, by decide +kernel, (mt2 112 rfl)⟩, (mt2 111 rfl)⟩
theorem fl5_130 : FL RX5 130 4 5 true (.array (.int)) := ⟨_, _, _, _, cf4, by decide, rfl, rfl, Or.inr ⟨"VariantKit", (mt1 76 rfl)⟩⟩
theorem fl5_134 : FL RX5 134 4 1 false (.int) := ⟨_, _, _, _, cf4, by decide, rfl, rfl, Or.inr ⟨"VariantKit", (mt1 60 rfl)⟩⟩
theorem lv4_51 : LV RX4 51 uX4_hasAllele 1 4 := ⟨⟨(mt2 129 rfl), (mt1 4 rfl), by decide +kernel, by decide +kernel, (mt2 108 rfl)⟩, (mt2 106 rfl), (mt2 107 rfl), by decide, _, _, rfl⟩
theorem ls5_137 : LSt RX5 137 uX5_isSample 1 := ⟨⟨(mt2 121 rfl), (mt1 1 rfl), by decide +kernel, by decide +kernel, (mt2 123 rfl)⟩, (mt2 122 rfl)⟩
theorem lv5_142 : LV RX5 142 uX4_allowsInGenotype 1 4 := ⟨⟨(mt2 125 rfl), (mt1 4 rfl), by decide +kernel, by decide +kernel, (mt2 128 rfl)⟩, (mt2 126 rfl), (mt2 127 rfl), by decide, _, _, rfl⟩
theorem fl5_147 : FL RX5 147 4 6 true (.array (.int)) := ⟨_, _, _, _, cf4, by decide, rfl, rfl, Or.inr ⟨"VariantKit", (mt1 80 rfl)⟩⟩
theorem fl5_150 : FL RX5 150 4 7 true (.array (.boolean)) := ⟨_, _, _, _, cf4, by decide, rfl, rfl, Or.inr ⟨"VariantKit", (mt1 84 rfl)⟩⟩
theorem lv5_154 : LV RX5 154 uX4_pairs 0 4 := ⟨⟨(mt2 138 rfl), (mt1 4 rfl), by decide +kernel, by decide +kernel, (mt2 141 rfl)⟩, (mt2 139 rfl), (mt2 140 rfl), by decide, _, _, rfl⟩
theorem fl5_162 : FL RX5 162 4 8 true (.array (.int)) := ⟨_, _, _, _, cf4, by decide, rfl, rfl, Or.inr ⟨"VariantKit", (mt1 88 rfl)⟩⟩
theorem fl2_18 : FL RX2 18 2 1 false (.int) := ⟨_, _, _, _, cf2, by decide, rfl, rfl, Or.inl (mt1 111 rfl)⟩
theorem fl2_11 : FL RX2 11 2 0 true (.array (.object "VariantKit$Variant")) := ⟨_, _, _, _, cf2, by decide, rfl, rfl, Or.inl (mt1 109 rfl)⟩
theorem wy4_45 : Cond.methodLink RX4 45 arraycopyName ∈ lw_tbl := (mt2 169 rfl)
theorem lv2_25 : LV RX2 25 uX2_open 1 2 := ⟨⟨(mt2 161 rfl), (mt1 3 rfl), by decide +kernel, by decide +kernel, (mt2 164 rfl)⟩, (mt2 162 rfl), (mt2 163 rfl), by decide, _, _, rfl⟩
theorem lv2_29 : LV RX2 29 uX4_copy 1 4 := ⟨⟨(mt2 165 rfl), (mt1 4 rfl), by decide +kernel, by decide +kernel, (mt2 168 rfl)⟩, (mt2 166 rfl), (mt2 167 rfl), by decide, _, _, rfl⟩
theorem fl2_22 : FL RX2 22 4 0 false (.int) := ⟨_, _, _, _, cf4, by decide, rfl, rfl, Or.inr ⟨"VariantKit", (mt1 54 rfl)⟩⟩
theorem lv5_167 : LV RX5 167 uX2_isFull 0 2 := ⟨⟨(mt2 152 rfl), (mt1 3 rfl), by decide +kernel, by decide +kernel, (mt2 155 rfl)⟩, (mt2 153 rfl), (mt2 154 rfl), by decide, _, _, rfl⟩
theorem lv5_173 : LV RX5 173 uX2_insert 1 2 := ⟨⟨(mt2 157 rfl), (mt1 3 rfl), by decide +kernel, by decide +kernel, (mt2 160 rfl)⟩, (mt2 158 rfl), (mt2 159 rfl), by decide, _, _, rfl⟩
theorem lv5_177 : LV RX5 177 uX5_requireRecord 1 5 := ⟨⟨(mt2 179 rfl), (mt1 1 rfl), by decide +kernel, by decide +kernel, (mt2 182 rfl)⟩, (mt2 181 rfl), (mts 1 rfl), by decide, _, _, rfl⟩
theorem lv5_181 : LV RX5 181 uX2_close 1 2 := ⟨⟨(mt2 184 rfl), (mt1 3 rfl), by decide +kernel, by decide +kernel, (mt2 187 rfl)⟩, (mt2 185 rfl), (mt2 186 rfl), by decide, _, _, rfl⟩
theorem wm4_88 : Cond.methodLink RX4 88 Lib.Math.min.name ∈ lw_tbl := (mt2 212 rfl)
theorem lv4_70 : LV RX4 70 uX4_shortest 0 4 := ⟨⟨(mt2 208 rfl), (mt1 4 rfl), by decide +kernel, by decide +kernel, (mt2 211 rfl)⟩, (mt2 210 rfl), (mts 4 rfl), by decide, _, _, rfl⟩
theorem lv4_73 : LV RX4 73 uX3_packed 2 3 := ⟨⟨(mt2 215 rfl), (mt1 2 rfl), by decide +kernel, by decide +kernel, (mt2 75 rfl)⟩, (mt2 73 rfl), (mt2 74 rfl), by decide, _, _, rfl⟩
theorem lv4_78 : LV RX4 78 uX4_putInFront 1 4 := ⟨⟨(mt2 216 rfl), (mt1 4 rfl), by decide +kernel, by decide +kernel, (mt2 219 rfl)⟩, (mt2 218 rfl), (mts 5 rfl), by decide, _, _, rfl⟩
theorem lv4_67 : LV RX4 67 uX4_isLastBaseShared 0 4 := ⟨⟨(mt2 204 rfl), (mt1 4 rfl), by decide +kernel, by decide +kernel, (mt2 207 rfl)⟩, (mt2 206 rfl), (mts 3 rfl), by decide, _, _, rfl⟩
theorem ln4_93 : LN RX4 93 uX5_baseOf 3 := ⟨"VariantKit", (mt2 228 rfl), (mt1 1 rfl), by decide +kernel, by decide +kernel, (mt2 50 rfl), (mt2 49 rfl)⟩
theorem ln4_84 : LN RX4 84 uX5_lowBases 1 := ⟨"VariantKit", (mt2 229 rfl), (mt1 1 rfl), by decide +kernel, by decide +kernel, (mt2 92 rfl), (mt2 91 rfl)⟩
theorem lv4_81 : LV RX4 81 uX4_isFirstBaseShared 0 4 := ⟨⟨(mt2 224 rfl), (mt1 4 rfl), by decide +kernel, by decide +kernel, (mt2 227 rfl)⟩, (mt2 226 rfl), (mts 7 rfl), by decide, _, _, rfl⟩
theorem lv4_59 : LV RX4 59 uX4_trimEnd 1 4 := ⟨⟨(mt2 200 rfl), (mt1 4 rfl), by decide +kernel, by decide +kernel, (mt2 203 rfl)⟩, (mt2 202 rfl), (mts 2 rfl), by decide, _, _, rfl⟩
theorem lv4_63 : LV RX4 63 uX4_trimFront 0 4 := ⟨⟨(mt2 220 rfl), (mt1 4 rfl), by decide +kernel, by decide +kernel, (mt2 223 rfl)⟩, (mt2 222 rfl), (mts 6 rfl), by decide, _, _, rfl⟩
theorem fl5_34 : FL RX5 34 5 4 true (.object "VariantKit$Variant") := ⟨_, _, _, _, cf5, by decide, rfl, rfl, Or.inl (mt1 164 rfl)⟩
theorem fl5_184 : FL RX5 184 2 0 true (.array (.object "VariantKit$Variant")) := ⟨_, _, _, _, cf2, by decide, rfl, rfl, Or.inr ⟨"VariantKit", (mt1 110 rfl)⟩⟩
theorem lv5_188 : LV RX5 188 uX4_copy 1 4 := ⟨⟨(mt2 195 rfl), (mt1 4 rfl), by decide +kernel, by decide +kernel, (mt2 168 rfl)⟩, (mt2 166 rfl), (mt2 167 rfl), by decide, _, _, rfl⟩
theorem lv5_192 : LV RX5 192 uX4_trim 1 4 := ⟨⟨(mt2 196 rfl), (mt1 4 rfl), by decide +kernel, by decide +kernel, (mt2 199 rfl)⟩, (mt2 197 rfl), (mt2 198 rfl), by decide, _, _, rfl⟩
theorem lv4_107 : LV RX4 107 uX4_appendAllele 2 4 := ⟨⟨(mt3 9 rfl), (mt1 4 rfl), by decide +kernel, by decide +kernel, (mt2 79 rfl)⟩, (mt2 77 rfl), (mt2 78 rfl), by decide, _, _, rfl⟩
theorem wm5_283 : Cond.methodLink RX5 283 Lib.Math.min.name ∈ lw_tbl := (mt3 13 rfl)
theorem wm5_288 : Cond.methodLink RX5 288 Lib.Math.max.name ∈ lw_tbl := (mt3 14 rfl)
theorem ln4_104 : LN RX4 104 uX5_pairNumber 2 := ⟨"VariantKit", (mt3 10 rfl), (mt1 1 rfl), by decide +kernel, by decide +kernel, (mt3 12 rfl), (mt3 11 rfl)⟩
theorem lv4_97 : LV RX4 97 uX4_clear 0 4 := ⟨⟨(mt3 4 rfl), (mt1 4 rfl), by decide +kernel, by decide +kernel, (mt2 67 rfl)⟩, (mt2 65 rfl), (mt2 66 rfl), by decide, _, _, rfl⟩
theorem lv4_100 : LV RX4 100 uX4_appendAlleleOf 2 4 := ⟨⟨(mt3 5 rfl), (mt1 4 rfl), by decide +kernel, by decide +kernel, (mt3 8 rfl)⟩, (mt3 6 rfl), (mt3 7 rfl), by decide, _, _, rfl⟩
theorem lv5_200 : LV RX5 200 uX2_open 1 2 := ⟨⟨(mt2 239 rfl), (mt1 3 rfl), by decide +kernel, by decide +kernel, (mt2 164 rfl)⟩, (mt2 162 rfl), (mt2 163 rfl), by decide, _, _, rfl⟩
theorem lv5_204 : LV RX5 204 uX4_becomePart 2 4 := ⟨⟨(mt3 0 rfl), (mt1 4 rfl), by decide +kernel, by decide +kernel, (mt3 3 rfl)⟩, (mt3 1 rfl), (mt3 2 rfl), by decide, _, _, rfl⟩
theorem fl1_24 : FL RX1 24 1 3 true (.array (.int)) := ⟨_, _, _, _, cf1, by decide, rfl, rfl, Or.inl (mt1 132 rfl)⟩
theorem fl1_18 : FL RX1 18 1 1 true (.object "VariantKit$Variant") := ⟨_, _, _, _, cf1, by decide, rfl, rfl, Or.inl (mt1 129 rfl)⟩
theorem fl1_61 : FL RX1 61 4 2 false (.int) := ⟨_, _, _, _, cf4, by decide, rfl, rfl, Or.inr ⟨"VariantKit", (mt1 62 rfl)⟩⟩
theorem fl1_21 : FL RX1 21 1 2 true (.object "VariantKit$Variant") := ⟨_, _, _, _, cf1, by decide, rfl, rfl, Or.inl (mt1 130 rfl)⟩
theorem fl1_64 : FL RX1 64 4 3 true (.array (.int)) := ⟨_, _, _, _, cf4, by decide, rfl, rfl, Or.inr ⟨"VariantKit", (mt1 66 rfl)⟩⟩
theorem fl1_67 : FL RX1 67 4 4 true (.array (.int)) := ⟨_, _, _, _, cf4, by decide, rfl, rfl, Or.inr ⟨"VariantKit", (mt1 70 rfl)⟩⟩
theorem lv1_70 : LV RX1 70 uX4_find 2 4 := ⟨⟨(mt3 58 rfl), (mt1 4 rfl), by decide +kernel, by decide +kernel, (mt2 96 rfl)⟩, (mt2 94 rfl), (mt2 95 rfl), by decide, _, _, rfl⟩
theorem lv1_73 : LV RX1 73 uX4_appendAlleleOf 2 4 := ⟨⟨(mt3 59 rfl), (mt1 4 rfl), by decide +kernel, by decide +kernel, (mt3 8 rfl)⟩, (mt3 6 rfl), (mt3 7 rfl), by decide, _, _, rfl⟩
theorem fl1_12 : FL RX1 12 1 0 true (.object "VariantKit$Variant") := ⟨_, _, _, _, cf1, by decide, rfl, rfl, Or.inl (mt1 128 rfl)⟩
theorem fl1_77 : FL RX1 77 4 5 true (.array (.int)) := ⟨_, _, _, _, cf4, by decide, rfl, rfl, Or.inr ⟨"VariantKit", (mt1 74 rfl)⟩⟩
theorem wm1_80 : Cond.methodLink RX1 80 Lib.Math.min.name ∈ lw_tbl := (mt3 65 rfl)
theorem wm1_46 : Cond.methodLink RX1 46 Lib.Math.max.name ∈ lw_tbl := (mt3 60 rfl)
theorem fl1_89 : FL RX1 89 4 7 true (.array (.boolean)) := ⟨_, _, _, _, cf4, by decide, rfl, rfl, Or.inr ⟨"VariantKit", (mt1 83 rfl)⟩⟩
theorem fl1_83 : FL RX1 83 4 6 true (.array (.int)) := ⟨_, _, _, _, cf4, by decide, rfl, rfl, Or.inr ⟨"VariantKit", (mt1 79 rfl)⟩⟩
theorem lv1_86 : LV RX1 86 uX1_unitedAllele 2 1 := ⟨⟨(mt3 70 rfl), (mt1 5 rfl), by decide +kernel, by decide +kernel, (mt3 73 rfl)⟩, (mt3 72 rfl), (mts 11 rfl), by decide, _, _, rfl⟩
theorem ln1_110 : LN RX1 110 uX5_pairNumber 2 := ⟨"VariantKit", (mt3 81 rfl), (mt1 1 rfl), by decide +kernel, by decide +kernel, (mt3 12 rfl), (mt3 11 rfl)⟩
theorem fl1_97 : FL RX1 97 4 8 true (.array (.int)) := ⟨_, _, _, _, cf4, by decide, rfl, rfl, Or.inr ⟨"VariantKit", (mt1 87 rfl)⟩⟩
theorem lv1_100 : LV RX1 100 uX4_pairs 0 4 := ⟨⟨(mt3 79 rfl), (mt1 4 rfl), by decide +kernel, by decide +kernel, (mt2 141 rfl)⟩, (mt2 139 rfl), (mt2 140 rfl), by decide, _, _, rfl⟩
theorem wy1_104 : Cond.methodLink RX1 104 arraycopyName ∈ lw_tbl := (mt3 80 rfl)
theorem lv1_93 : LV RX1 93 uX4_fillLikelihoods 1 4 := ⟨⟨(mt3 78 rfl), (mt1 4 rfl), by decide +kernel, by decide +kernel, (mt2 71 rfl)⟩, (mt2 69 rfl), (mt2 70 rfl), by decide, _, _, rfl⟩
theorem lv1_28 : LV RX1 28 uX4_copy 1 4 := ⟨⟨(mt3 45 rfl), (mt1 4 rfl), by decide +kernel, by decide +kernel, (mt2 168 rfl)⟩, (mt2 166 rfl), (mt2 167 rfl), by decide, _, _, rfl⟩
theorem lv1_32 : LV RX1 32 uX4_lengthenLike 1 4 := ⟨⟨(mt3 46 rfl), (mt1 4 rfl), by decide +kernel, by decide +kernel, (mt3 49 rfl)⟩, (mt3 47 rfl), (mt3 48 rfl), by decide, _, _, rfl⟩
theorem lv1_35 : LV RX1 35 uX4_hasTooLongAllele 0 4 := ⟨⟨(mt3 50 rfl), (mt1 4 rfl), by decide +kernel, by decide +kernel, (mt3 53 rfl)⟩, (mt3 51 rfl), (mt3 52 rfl), by decide, _, _, rfl⟩
theorem lv1_39 : LV RX1 39 uX1_uniteAlleles 0 1 := ⟨⟨(mt3 54 rfl), (mt1 5 rfl), by decide +kernel, by decide +kernel, (mt3 57 rfl)⟩, (mt3 56 rfl), (mts 8 rfl), by decide, _, _, rfl⟩
theorem fl1_42 : FL RX1 42 4 1 false (.int) := ⟨_, _, _, _, cf4, by decide, rfl, rfl, Or.inr ⟨"VariantKit", (mt1 58 rfl)⟩⟩
theorem lv1_52 : LV RX1 52 uX1_uniteDepths 0 1 := ⟨⟨(mt3 61 rfl), (mt1 5 rfl), by decide +kernel, by decide +kernel, (mt3 64 rfl)⟩, (mt3 63 rfl), (mts 9 rfl), by decide, _, _, rfl⟩
theorem lv1_55 : LV RX1 55 uX1_uniteGenotypes 0 1 := ⟨⟨(mt3 66 rfl), (mt1 5 rfl), by decide +kernel, by decide +kernel, (mt3 69 rfl)⟩, (mt3 68 rfl), (mts 10 rfl), by decide, _, _, rfl⟩
theorem lv1_58 : LV RX1 58 uX1_uniteLikelihoods 0 1 := ⟨⟨(mt3 74 rfl), (mt1 5 rfl), by decide +kernel, by decide +kernel, (mt3 77 rfl)⟩, (mt3 76 rfl), (mts 12 rfl), by decide, _, _, rfl⟩
theorem fl5_40 : FL RX5 40 5 5 true (.object "VariantKit$Joiner") := ⟨_, _, _, _, cf5, by decide, rfl, rfl, Or.inl (mt1 165 rfl)⟩
theorem lv5_213 : LV RX5 213 uX1_unite 2 1 := ⟨⟨(mt3 41 rfl), (mt1 5 rfl), by decide +kernel, by decide +kernel, (mt3 44 rfl)⟩, (mt3 42 rfl), (mt3 43 rfl), by decide, _, _, rfl⟩
theorem fl5_219 : FL RX5 219 1 2 true (.object "VariantKit$Variant") := ⟨_, _, _, _, cf1, by decide, rfl, rfl, Or.inr ⟨"VariantKit", (mt1 131 rfl)⟩⟩
theorem fl0_9 : FL RX0 9 0 0 true (.array (.int)) := ⟨_, _, _, _, cf0, by decide, rfl, rfl, Or.inl (mt1 148 rfl)⟩
theorem lv0_22 : LV RX0 22 uX0_put 1 0 := ⟨⟨(mt3 99 rfl), (mt1 6 rfl), by decide +kernel, by decide +kernel, (mt3 102 rfl)⟩, (mt3 100 rfl), (mt3 101 rfl), by decide, _, _, rfl⟩
theorem wg0_71 : Cond.fieldLinkNest RX0 71 RX5 "LETTERS" "[I" "VariantKit" ∈ lw_tbl := (mt3 107 rfl)
theorem ln0_74 : LN RX0 74 uX5_baseOf 3 := ⟨"VariantKit", (mt3 109 rfl), (mt1 1 rfl), by decide +kernel, by decide +kernel, (mt2 50 rfl), (mt2 49 rfl)⟩
theorem lv0_31 : LV RX0 31 uX0_putNumber 2 0 := ⟨⟨(mt3 95 rfl), (mt1 6 rfl), by decide +kernel, by decide +kernel, (mt3 98 rfl)⟩, (mt3 97 rfl), (mts 13 rfl), by decide, _, _, rfl⟩
theorem fl0_61 : FL RX0 61 4 6 true (.array (.int)) := ⟨_, _, _, _, cf4, by decide, rfl, rfl, Or.inr ⟨"VariantKit", (mt1 78 rfl)⟩⟩
theorem fl0_64 : FL RX0 64 4 8 true (.array (.int)) := ⟨_, _, _, _, cf4, by decide, rfl, rfl, Or.inr ⟨"VariantKit", (mt1 86 rfl)⟩⟩
theorem lv0_67 : LV RX0 67 uX4_pairs 0 4 := ⟨⟨(mt3 114 rfl), (mt1 4 rfl), by decide +kernel, by decide +kernel, (mt2 141 rfl)⟩, (mt2 139 rfl), (mt2 140 rfl), by decide, _, _, rfl⟩
theorem lv0_53 : LV RX0 53 uX0_putNumbers 3 0 := ⟨⟨(mt3 110 rfl), (mt1 6 rfl), by decide +kernel, by decide +kernel, (mt3 113 rfl)⟩, (mt3 112 rfl), (mts 15 rfl), by decide, _, _, rfl⟩
theorem fl0_57 : FL RX0 57 4 7 true (.array (.boolean)) := ⟨_, _, _, _, cf4, by decide, rfl, rfl, Or.inr ⟨"VariantKit", (mt1 82 rfl)⟩⟩
theorem fl0_38 : FL RX0 38 4 2 false (.int) := ⟨_, _, _, _, cf4, by decide, rfl, rfl, Or.inr ⟨"VariantKit", (mt1 63 rfl)⟩⟩
theorem fl0_50 : FL RX0 50 4 5 true (.array (.int)) := ⟨_, _, _, _, cf4, by decide, rfl, rfl, Or.inr ⟨"VariantKit", (mt1 75 rfl)⟩⟩
theorem fl0_41 : FL RX0 41 4 3 true (.array (.int)) := ⟨_, _, _, _, cf4, by decide, rfl, rfl, Or.inr ⟨"VariantKit", (mt1 67 rfl)⟩⟩
theorem fl0_44 : FL RX0 44 4 4 true (.array (.int)) := ⟨_, _, _, _, cf4, by decide, rfl, rfl, Or.inr ⟨"VariantKit", (mt1 71 rfl)⟩⟩
theorem lv0_47 : LV RX0 47 uX0_putAllele 2 0 := ⟨⟨(mt3 103 rfl), (mt1 6 rfl), by decide +kernel, by decide +kernel, (mt3 106 rfl)⟩, (mt3 105 rfl), (mts 14 rfl), by decide, _, _, rfl⟩
theorem fl0_26 : FL RX0 26 4 0 false (.int) := ⟨_, _, _, _, cf4, by decide, rfl, rfl, Or.inr ⟨"VariantKit", (mt1 56 rfl)⟩⟩
theorem fl0_35 : FL RX0 35 4 1 false (.int) := ⟨_, _, _, _, cf4, by decide, rfl, rfl, Or.inr ⟨"VariantKit", (mt1 59 rfl)⟩⟩
theorem fl5_51 : FL RX5 51 5 7 true (.object "VariantKit$ByteRow") := ⟨_, _, _, _, cf5, by decide, rfl, rfl, Or.inl (mt1 167 rfl)⟩
theorem lv5_222 : LV RX5 222 uX0_putVariant 1 0 := ⟨⟨(mt3 91 rfl), (mt1 6 rfl), by decide +kernel, by decide +kernel, (mt3 94 rfl)⟩, (mt3 92 rfl), (mt3 93 rfl), by decide, _, _, rfl⟩
theorem tw_228_232 : TW 228 232 "java/lang/IndexOutOfBoundsException" := ⟨by decide +kernel, (mt3 115 rfl), (mt1 16 rfl), by decide +kernel⟩
theorem fl5_225 : FL RX5 225 0 1 false (.int) := ⟨_, _, _, _, cf0, by decide, rfl, rfl, Or.inr ⟨"VariantKit", (mt1 151 rfl)⟩⟩
theorem fl5_233 : FL RX5 233 0 0 true (.array (.int)) := ⟨_, _, _, _, cf0, by decide, rfl, rfl, Or.inr ⟨"VariantKit", (mt1 149 rfl)⟩⟩
theorem fl5_47 : FL RX5 47 5 6 true (.object "VariantKit$ByteRow") := ⟨_, _, _, _, cf5, by decide, rfl, rfl, Or.inl (mt1 166 rfl)⟩
theorem lv5_238 : LV RX5 238 uX0_put 1 0 := ⟨⟨(mt3 139 rfl), (mt1 6 rfl), by decide +kernel, by decide +kernel, (mt3 102 rfl)⟩, (mt3 100 rfl), (mt3 101 rfl), by decide, _, _, rfl⟩
theorem lv0_78 : LV RX0 78 uX0_take 0 0 := ⟨⟨(mt3 160 rfl), (mt1 6 rfl), by decide +kernel, by decide +kernel, (mt3 163 rfl)⟩, (mt3 162 rfl), (mts 18 rfl), by decide, _, _, rfl⟩
theorem lv0_110 : LV RX0 110 uX3_covers 2 3 := ⟨⟨(mt3 174 rfl), (mt1 2 rfl), by decide +kernel, by decide +kernel, (mt2 62 rfl)⟩, (mt2 60 rfl), (mt2 61 rfl), by decide, _, _, rfl⟩
theorem lv0_116 : LV RX0 116 uX3_packed 2 3 := ⟨⟨(mt3 175 rfl), (mt1 2 rfl), by decide +kernel, by decide +kernel, (mt2 75 rfl)⟩, (mt2 73 rfl), (mt2 74 rfl), by decide, _, _, rfl⟩
theorem lv0_100 : LV RX0 100 uX0_takeBases 1 0 := ⟨⟨(mt3 168 rfl), (mt1 6 rfl), by decide +kernel, by decide +kernel, (mt3 171 rfl)⟩, (mt3 170 rfl), (mts 20 rfl), by decide, _, _, rfl⟩
theorem lv0_103 : LV RX0 103 uX4_find 2 4 := ⟨⟨(mt3 172 rfl), (mt1 4 rfl), by decide +kernel, by decide +kernel, (mt2 96 rfl)⟩, (mt2 94 rfl), (mt2 95 rfl), by decide, _, _, rfl⟩
theorem lv0_107 : LV RX0 107 uX4_appendAllele 2 4 := ⟨⟨(mt3 173 rfl), (mt1 4 rfl), by decide +kernel, by decide +kernel, (mt2 79 rfl)⟩, (mt2 77 rfl), (mt2 78 rfl), by decide, _, _, rfl⟩
theorem lv0_84 : LV RX0 84 uX0_takeNumber 1 0 := ⟨⟨(mt3 156 rfl), (mt1 6 rfl), by decide +kernel, by decide +kernel, (mt3 159 rfl)⟩, (mt3 158 rfl), (mts 17 rfl), by decide, _, _, rfl⟩
theorem lv0_118 : LV RX0 118 uX4_allowsInGenotype 1 4 := ⟨⟨(mt3 184 rfl), (mt1 4 rfl), by decide +kernel, by decide +kernel, (mt2 128 rfl)⟩, (mt2 126 rfl), (mt2 127 rfl), by decide, _, _, rfl⟩
theorem lv0_96 : LV RX0 96 uX0_takeGenotype 2 0 := ⟨⟨(mt3 180 rfl), (mt1 6 rfl), by decide +kernel, by decide +kernel, (mt3 183 rfl)⟩, (mt3 182 rfl), (mts 22 rfl), by decide, _, _, rfl⟩
theorem lv0_92 : LV RX0 92 uX0_takeNumbers 4 0 := ⟨⟨(mt3 176 rfl), (mt1 6 rfl), by decide +kernel, by decide +kernel, (mt3 179 rfl)⟩, (mt3 178 rfl), (mts 21 rfl), by decide, _, _, rfl⟩
theorem lv0_81 : LV RX0 81 uX4_clear 0 4 := ⟨⟨(mt3 155 rfl), (mt1 4 rfl), by decide +kernel, by decide +kernel, (mt2 67 rfl)⟩, (mt2 65 rfl), (mt2 66 rfl), by decide, _, _, rfl⟩
theorem lv0_88 : LV RX0 88 uX0_takeAlleles 2 0 := ⟨⟨(mt3 164 rfl), (mt1 6 rfl), by decide +kernel, by decide +kernel, (mt3 167 rfl)⟩, (mt3 166 rfl), (mts 19 rfl), by decide, _, _, rfl⟩
theorem lv5_275 : LV RX5 275 uX0_takeVariant 2 0 := ⟨⟨(mt3 151 rfl), (mt1 6 rfl), by decide +kernel, by decide +kernel, (mt3 154 rfl)⟩, (mt3 152 rfl), (mt3 153 rfl), by decide, _, _, rfl⟩
theorem lv5_279 : LV RX5 279 uX0_isSame 1 0 := ⟨⟨(mt3 185 rfl), (mt1 6 rfl), by decide +kernel, by decide +kernel, (mt3 188 rfl)⟩, (mt3 186 rfl), (mt3 187 rfl), by decide, _, _, rfl⟩
theorem lv5_241 : LV RX5 241 uX5_takeTyped 0 5 := ⟨⟨(mt3 147 rfl), (mt1 1 rfl), by decide +kernel, by decide +kernel, (mt3 150 rfl)⟩, (mt3 149 rfl), (mts 16 rfl), by decide, _, _, rfl⟩
theorem lv4_55 : LV RX4 55 uX4_lastPlace 0 4 := ⟨⟨(mt3 201 rfl), (mt1 4 rfl), by decide +kernel, by decide +kernel, (mt3 204 rfl)⟩, (mt3 202 rfl), (mt3 203 rfl), by decide, _, _, rfl⟩
theorem fl5_246 : FL RX5 246 4 4 true (.array (.int)) := ⟨_, _, _, _, cf4, by decide, rfl, rfl, Or.inr ⟨"VariantKit", (mt1 72 rfl)⟩⟩
theorem lv5_249 : LV RX5 249 uX4_bin 0 4 := ⟨⟨(mt3 197 rfl), (mt1 4 rfl), by decide +kernel, by decide +kernel, (mt3 200 rfl)⟩, (mt3 198 rfl), (mt3 199 rfl), by decide, _, _, rfl⟩
theorem fl5_256 : FL RX5 256 4 3 true (.array (.int)) := ⟨_, _, _, _, cf4, by decide, rfl, rfl, Or.inr ⟨"VariantKit", (mt1 68 rfl)⟩⟩
theorem ls5_258 : LSt RX5 258 uX5_baseOf 3 := ⟨⟨(mt3 214 rfl), (mt1 1 rfl), by decide +kernel, by decide +kernel, (mt2 50 rfl)⟩, (mt2 49 rfl)⟩
theorem lv5_265 : LV RX5 265 uX4_spansOneOf 2 4 := ⟨⟨(mt3 226 rfl), (mt1 4 rfl), by decide +kernel, by decide +kernel, (mt3 229 rfl)⟩, (mt3 227 rfl), (mt3 228 rfl), by decide, _, _, rfl⟩
theorem ls5_262 : LSt RX5 262 uX5_requireRegion 2 := ⟨⟨(mt3 222 rfl), (mt1 1 rfl), by decide +kernel, by decide +kernel, (mt3 224 rfl)⟩, (mt3 223 rfl)⟩
theorem wf5_268 : Cond.constantFloat RX5 268 (1040187392 : UInt32) ∈ lw_tbl := (mt3 237 rfl)
theorem wo6_1 : Cond.methodLink RX6 1 objectInit ∈ lw_tbl := (mt4 4 rfl)
theorem ff6_7 : FF RX6 7 6 1 (.array (.int)) := ⟨_, _, _, _, cf6, by decide, rfl, rfl, rfl, (mt4 6 rfl)⟩
theorem ff6_13 : FF RX6 13 6 5 (.array (.int)) := ⟨_, _, _, _, cf6, by decide, rfl, rfl, rfl, (mt4 10 rfl)⟩
theorem ff6_16 : FF RX6 16 6 6 (.array (.int)) := ⟨_, _, _, _, cf6, by decide, rfl, rfl, rfl, (mt4 11 rfl)⟩
theorem ff6_19 : FF RX6 19 6 8 (.array (.int)) := ⟨_, _, _, _, cf6, by decide, rfl, rfl, rfl, (mt4 13 rfl)⟩
theorem ff6_22 : FF RX6 22 6 10 (.array (.int)) := ⟨_, _, _, _, cf6, by decide, rfl, rfl, rfl, (mt4 15 rfl)⟩
theorem fl6_25 : FL RX6 25 6 0 false (.int) := ⟨_, _, _, _, cf6, by decide, rfl, rfl, Or.inl (mt4 5 rfl)⟩
theorem fl6_13 : FL RX6 13 6 5 true (.array (.int)) := ⟨_, _, _, _, cf6, by decide, rfl, rfl, Or.inl (mt4 10 rfl)⟩
theorem lv6_29 : LV RX6 29 uX6_put 3 6 := ⟨⟨(mt4 60 rfl), (mt1 7 rfl), by decide +kernel, by decide +kernel, (mt4 63 rfl)⟩, (mt4 62 rfl), (mts 25 rfl), by decide, _, _, rfl⟩
theorem lv6_33 : LV RX6 33 uX6_get 2 6 := ⟨⟨(mt4 72 rfl), (mt1 7 rfl), by decide +kernel, by decide +kernel, (mt4 75 rfl)⟩, (mt4 74 rfl), (mts 28 rfl), by decide, _, _, rfl⟩
theorem fl6_7 : FL RX6 7 6 1 true (.array (.int)) := ⟨_, _, _, _, cf6, by decide, rfl, rfl, Or.inl (mt4 6 rfl)⟩
theorem fl6_37 : FL RX6 37 6 2 false (.int) := ⟨_, _, _, _, cf6, by decide, rfl, rfl, Or.inl (mt4 7 rfl)⟩
theorem wl6_51 : Cond.constantLong RX6 51 (3 : Int64) ∈ lw_tbl := (mt4 51 rfl)
theorem lv6_47 : LV RX6 47 uX6_throwing 2 6 := ⟨⟨(mt4 47 rfl), (mt1 7 rfl), by decide +kernel, by decide +kernel, (mt4 50 rfl)⟩, (mt4 49 rfl), (mts 23 rfl), by decide, _, _, rfl⟩
theorem fl6_40 : FL RX6 40 6 3 false (.boolean) := ⟨_, _, _, _, cf6, by decide, rfl, rfl, Or.inl (mt4 8 rfl)⟩
theorem fl6_44 : FL RX6 44 6 4 false (.int) := ⟨_, _, _, _, cf6, by decide, rfl, rfl, Or.inl (mt4 9 rfl)⟩
theorem lv6_53 : LV RX6 53 uX6_empty 2 6 := ⟨⟨(mt4 56 rfl), (mt1 7 rfl), by decide +kernel, by decide +kernel, (mt4 59 rfl)⟩, (mt4 58 rfl), (mts 24 rfl), by decide, _, _, rfl⟩
theorem lv6_57 : LV RX6 57 uX6_referenceFrom 2 6 := ⟨⟨(mt4 64 rfl), (mt1 7 rfl), by decide +kernel, by decide +kernel, (mt4 67 rfl)⟩, (mt4 66 rfl), (mts 26 rfl), by decide, _, _, rfl⟩
theorem lv6_60 : LV RX6 60 uX6_addAllele 3 6 := ⟨⟨(mt4 68 rfl), (mt1 7 rfl), by decide +kernel, by decide +kernel, (mt4 71 rfl)⟩, (mt4 70 rfl), (mts 27 rfl), by decide, _, _, rfl⟩
theorem lv6_63 : LV RX6 63 uX6_findAllele 3 6 := ⟨⟨(mt4 80 rfl), (mt1 7 rfl), by decide +kernel, by decide +kernel, (mt4 83 rfl)⟩, (mt4 82 rfl), (mts 29 rfl), by decide, _, _, rfl⟩
theorem ls6_67 : LSt RX6 67 uX6_out 2 := ⟨⟨(mt4 88 rfl), (mt1 7 rfl), by decide +kernel, by decide +kernel, (mt4 90 rfl)⟩, (mt4 89 rfl)⟩
theorem ls6_70 : LSt RX6 70 uX6_pairs 1 := ⟨⟨(mt4 99 rfl), (mt1 7 rfl), by decide +kernel, by decide +kernel, (mt4 101 rfl)⟩, (mt4 100 rfl)⟩
theorem lv6_81 : LV RX6 81 uX6_copy 2 6 := ⟨⟨(mt4 114 rfl), (mt1 7 rfl), by decide +kernel, by decide +kernel, (mt4 117 rfl)⟩, (mt4 116 rfl), (mts 32 rfl), by decide, _, _, rfl⟩
theorem lv6_77 : LV RX6 77 uX6_open 1 6 := ⟨⟨(mt4 110 rfl), (mt1 7 rfl), by decide +kernel, by decide +kernel, (mt4 113 rfl)⟩, (mt4 112 rfl), (mts 31 rfl), by decide, _, _, rfl⟩
theorem lv6_74 : LV RX6 74 uX6_enter 1 6 := ⟨⟨(mt4 106 rfl), (mt1 7 rfl), by decide +kernel, by decide +kernel, (mt4 109 rfl)⟩, (mt4 108 rfl), (mts 30 rfl), by decide, _, _, rfl⟩
theorem lv6_84 : LV RX6 84 uX6_close 1 6 := ⟨⟨(mt4 122 rfl), (mt1 7 rfl), by decide +kernel, by decide +kernel, (mt4 125 rfl)⟩, (mt4 124 rfl), (mts 33 rfl), by decide, _, _, rfl⟩
theorem lv6_87 : LV RX6 87 uX6_edge 3 6 := ⟨⟨(mt4 142 rfl), (mt1 7 rfl), by decide +kernel, by decide +kernel, (mt4 145 rfl)⟩, (mt4 144 rfl), (mts 37 rfl), by decide, _, _, rfl⟩
theorem lv6_94 : LV RX6 94 uX6_same 2 6 := ⟨⟨(mt4 138 rfl), (mt1 7 rfl), by decide +kernel, by decide +kernel, (mt4 141 rfl)⟩, (mt4 140 rfl), (mts 36 rfl), by decide, _, _, rfl⟩
theorem lv6_91 : LV RX6 91 uX6_shortest 1 6 := ⟨⟨(mt4 134 rfl), (mt1 7 rfl), by decide +kernel, by decide +kernel, (mt4 137 rfl)⟩, (mt4 136 rfl), (mts 35 rfl), by decide, _, _, rfl⟩
theorem lv6_98 : LV RX6 98 uX6_step 1 6 := ⟨⟨(mt4 130 rfl), (mt1 7 rfl), by decide +kernel, by decide +kernel, (mt4 133 rfl)⟩, (mt4 132 rfl), (mts 34 rfl), by decide, _, _, rfl⟩
theorem ls6_102 : LSt RX6 102 uX6_pair 2 := ⟨⟨(mt4 154 rfl), (mt1 7 rfl), by decide +kernel, by decide +kernel, (mt4 156 rfl)⟩, (mt4 155 rfl)⟩
theorem lv6_105 : LV RX6 105 uX6_part 2 6 := ⟨⟨(mt4 150 rfl), (mt1 7 rfl), by decide +kernel, by decide +kernel, (mt4 153 rfl)⟩, (mt4 152 rfl), (mts 38 rfl), by decide, _, _, rfl⟩
theorem fl6_22 : FL RX6 22 6 10 true (.array (.int)) := ⟨_, _, _, _, cf6, by decide, rfl, rfl, Or.inl (mt4 15 rfl)⟩
theorem lv6_108 : LV RX6 108 uX6_back 3 6 := ⟨⟨(mt4 165 rfl), (mt1 7 rfl), by decide +kernel, by decide +kernel, (mt4 168 rfl)⟩, (mt4 167 rfl), (mts 40 rfl), by decide, _, _, rfl⟩
theorem lv6_111 : LV RX6 111 uX6_likely 5 6 := ⟨⟨(mt4 173 rfl), (mt1 7 rfl), by decide +kernel, by decide +kernel, (mt4 176 rfl)⟩, (mt4 175 rfl), (mts 42 rfl), by decide, _, _, rfl⟩
theorem lv6_118 : LV RX6 118 uX6_joinSample 3 6 := ⟨⟨(mt4 169 rfl), (mt1 7 rfl), by decide +kernel, by decide +kernel, (mt4 172 rfl)⟩, (mt4 171 rfl), (mts 41 rfl), by decide, _, _, rfl⟩
theorem lv6_115 : LV RX6 115 uX6_gather 2 6 := ⟨⟨(mt4 161 rfl), (mt1 7 rfl), by decide +kernel, by decide +kernel, (mt4 164 rfl)⟩, (mt4 163 rfl), (mts 39 rfl), by decide, _, _, rfl⟩
theorem fl6_16 : FL RX6 16 6 6 true (.array (.int)) := ⟨_, _, _, _, cf6, by decide, rfl, rfl, Or.inl (mt4 11 rfl)⟩
theorem fl6_121 : FL RX6 121 6 7 false (.int) := ⟨_, _, _, _, cf6, by decide, rfl, rfl, Or.inl (mt4 12 rfl)⟩
theorem lv6_124 : LV RX6 124 uX6_write 1 6 := ⟨⟨(mt4 185 rfl), (mt1 7 rfl), by decide +kernel, by decide +kernel, (mt4 188 rfl)⟩, (mt4 187 rfl), (mts 44 rfl), by decide, _, _, rfl⟩
theorem lv6_130 : LV RX6 130 uX6_writeRow 3 6 := ⟨⟨(mt4 192 rfl), (mt1 7 rfl), by decide +kernel, by decide +kernel, (mt4 195 rfl)⟩, (mt4 194 rfl), (mts 45 rfl), by decide, _, _, rfl⟩
theorem ls6_127 : LSt RX6 127 uX6_letter 1 := ⟨⟨(mt4 189 rfl), (mt1 7 rfl), by decide +kernel, by decide +kernel, (mt4 191 rfl)⟩, (mt4 190 rfl)⟩
theorem lv6_133 : LV RX6 133 uX6_writeOut 1 6 := ⟨⟨(mt4 181 rfl), (mt1 7 rfl), by decide +kernel, by decide +kernel, (mt4 184 rfl)⟩, (mt4 183 rfl), (mts 43 rfl), by decide, _, _, rfl⟩
theorem fl6_19 : FL RX6 19 6 8 true (.array (.int)) := ⟨_, _, _, _, cf6, by decide, rfl, rfl, Or.inl (mt4 13 rfl)⟩
theorem fl6_136 : FL RX6 136 6 9 false (.int) := ⟨_, _, _, _, cf6, by decide, rfl, rfl, Or.inl (mt4 14 rfl)⟩
theorem wl6_139 : Cond.constantLong RX6 139 (255 : Int64) ∈ lw_tbl := (mt4 200 rfl)
theorem lv6_141 : LV RX6 141 uX6_byteAt 1 6 := ⟨⟨(mt4 213 rfl), (mt1 7 rfl), by decide +kernel, by decide +kernel, (mt4 216 rfl)⟩, (mt4 215 rfl), (mts 48 rfl), by decide, _, _, rfl⟩
theorem lv6_144 : LV RX6 144 uX6_twoAt 1 6 := ⟨⟨(mt4 209 rfl), (mt1 7 rfl), by decide +kernel, by decide +kernel, (mt4 212 rfl)⟩, (mt4 211 rfl), (mts 47 rfl), by decide, _, _, rfl⟩
theorem lv6_150 : LV RX6 150 uX6_readRow 3 6 := ⟨⟨(mt4 220 rfl), (mt1 7 rfl), by decide +kernel, by decide +kernel, (mt4 223 rfl)⟩, (mt4 222 rfl), (mts 49 rfl), by decide, _, _, rfl⟩
theorem lv6_153 : LV RX6 153 uX6_inRange 1 6 := ⟨⟨(mt4 224 rfl), (mt1 7 rfl), by decide +kernel, by decide +kernel, (mt4 227 rfl)⟩, (mt4 226 rfl), (mts 50 rfl), by decide, _, _, rfl⟩
theorem ls6_147 : LSt RX6 147 uX6_baseOf 1 := ⟨⟨(mt4 217 rfl), (mt1 7 rfl), by decide +kernel, by decide +kernel, (mt4 219 rfl)⟩, (mt4 218 rfl)⟩
theorem lv6_156 : LV RX6 156 uX6_taken 0 6 := ⟨⟨(mt4 205 rfl), (mt1 7 rfl), by decide +kernel, by decide +kernel, (mt4 208 rfl)⟩, (mt4 207 rfl), (mts 46 rfl), by decide, _, _, rfl⟩
theorem lv6_160 : LV RX6 160 uX6_binOf 1 6 := ⟨⟨(mt4 236 rfl), (mt1 7 rfl), by decide +kernel, by decide +kernel, (mt4 239 rfl)⟩, (mt4 238 rfl), (mts 51 rfl), by decide, _, _, rfl⟩
theorem lv6_166 : LV RX6 166 uX6_spans 3 6 := ⟨⟨(mt5 12 rfl), (mt1 7 rfl), by decide +kernel, by decide +kernel, (mt5 15 rfl)⟩, (mt5 14 rfl), (mts 53 rfl), by decide, _, _, rfl⟩
theorem lv6_163 : LV RX6 163 uX6_isBad 2 6 := ⟨⟨(mt5 8 rfl), (mt1 7 rfl), by decide +kernel, by decide +kernel, (mt5 11 rfl)⟩, (mt5 10 rfl), (mts 52 rfl), by decide, _, _, rfl⟩
theorem wf6_170 : Cond.constantFloat RX6 170 (1040187392 : UInt32) ∈ lw_tbl := (mt5 20 rfl)
end
section
def F_X5_baseOf (v0 : Int64) (v2 : Int32) (v3 : Int32) (S : Mem) : Option (Int32 × Mem) :=
    some ((((v0.toUInt64 >>> (((2 : Int32) * ((v2 - (1 : Int32)) - v3)).toInt64.toUInt64 &&& Int64.toUInt64 63)).toInt64).toInt32) &&& (3 : Int32), S)
set_option maxRecDepth 100000 in
theorem T_X5_baseOf {g : GG} {l : Launch} (hl : l.stackTraces = false) {v0 : Int64} {v2 : Int32} {v3 : Int32} {S S' : Mem} {r : Int32} (h : F_X5_baseOf v0 v2 v3 S = some (r, S')) : Call g l uX5_baseOf [.long v0, .int v2, .int v3] S (cvI r) S' := by
  refine call_of (by decide +kernel) hl rfl (Nat.le_of_ble_eq_true rfl) ?_
  show Run g l uX5_baseOf _ 0 [(0, .long v0), (2, .int v2), (3, .int v3)] [] 0 0 S
  unfold F_X5_baseOf at h
  refine r_lload_n dX5_baseOf_0 rfl 0 rfl ?_
  refine r_iconst (v := (2 : Int32)) dX5_baseOf_1 (by decide) ?_
  refine r_iload_n dX5_baseOf_2 rfl 1 rfl ?_
  refine r_iconst (v := (1 : Int32)) dX5_baseOf_3 (by decide) ?_
  refine r_isub dX5_baseOf_4 ?_
  refine r_iload_n dX5_baseOf_5 rfl 2 rfl ?_
  refine r_isub dX5_baseOf_6 ?_
  refine r_imul dX5_baseOf_7 ?_
  refine r_lushr dX5_baseOf_8 ?_
  refine r_l2i dX5_baseOf_9 ?_
  refine r_iconst (v := (3 : Int32)) dX5_baseOf_10 (by decide) ?_
  refine r_iand dX5_baseOf_11 ?_
  cases h
  exact r_ireturn dX5_baseOf_12 rfl rfl (by decide) (by decide)

def F_X3_append_L3 : Nat → Nat → Int64 → Int32 → Int32 → Mem → Option Mem
  | 0, _, _, _, _, _ => none
  | fu + 1, v0, v1, v3, v4, S =>
    if v3 ≤ v4 then
      some S
    else
      (pgI 3 1 S v0).bind fun t2 =>
      if (160 : Int32) ≤ t2 then
        some S
      else
        (pgR 3 0 S v0).bind fun t4 =>
        (pgI 3 1 S v0).bind fun t5 =>
        bd2 (F_X5_baseOf v1 v3 v4 S) fun t6 S7 =>
        (psI S7 t4 t5 t6).bind fun S8 =>
        (pgI 3 1 S8 v0).bind fun t9 =>
        (ppI 3 1 S8 v0 (t9 + (1 : Int32))).bind fun S10 =>
        F_X3_append_L3 fu v0 v1 v3 (v4 + 1) S10
set_option maxRecDepth 100000 in
theorem T_X3_append_L3 {g : GG} {l : Launch} (hl : l.stackTraces = false) {S' : Mem}  : ∀ (fu : Nat) (v0 : Nat) (v1 : Int64) (v3 : Int32) (v4 : Int32) (S : Mem), F_X3_append_L3 fu v0 v1 v3 v4 S = some S' → Run g l uX3_append (fin g uX3_append cvV S') 3 [(0, .ref v0), (1, .long v1), (3, .int v3), (4, .int v4)] [] 0 0 S := by
  intro fu
  induction fu with
  | zero =>
    intro v0 v1 v3 v4 S h
    cases (show none = some _ from h)
  | succ fu ih =>
    intro v0 v1 v3 v4 S h
    unfold F_X3_append_L3 at h
    refine r_iload dX3_append_3 3 rfl ?_
    refine r_iload_n dX3_append_5 rfl 2 rfl ?_
    refine r_icmp_ge (tgt := 51) dX3_append_6 (by decide) (fun c1 => ?_) (fun c1 => ?_)
    · rw [if_pos c1] at h
      cases h
      exact r_return dX3_append_51 rfl (by decide) (by decide)
    · rw [if_neg c1] at h
      refine r_aload_n dX3_append_9 rfl 0 rfl ?_
      obtain ⟨t2, h0, h⟩ := bd h
      refine q_getI h0 dX3_append_10 fl3_15 rfl ?_
      refine r_sipush (v := (160 : Int32)) dX3_append_13 (by decide) ?_
      refine r_icmp_ge (tgt := 51) dX3_append_16 (by decide) (fun c3 => ?_) (fun c3 => ?_)
      · rw [if_pos c3] at h
        cases h
        exact r_return dX3_append_51 rfl (by decide) (by decide)
      · rw [if_neg c3] at h
        refine r_aload_n dX3_append_19 rfl 0 rfl ?_
        obtain ⟨t4, h0, h⟩ := bd h
        refine q_getR h0 dX3_append_20 fl3_9 rfl ?_
        refine r_aload_n dX3_append_23 rfl 0 rfl ?_
        obtain ⟨t5, h0, h⟩ := bd h
        refine q_getI h0 dX3_append_24 fl3_15 rfl ?_
        refine r_lload_n dX3_append_27 rfl 1 rfl ?_
        refine r_iload_n dX3_append_28 rfl 2 rfl ?_
        refine r_iload dX3_append_29 3 rfl ?_
        obtain ⟨t6, S7, h0, h⟩ := bd2_s h
        refine r_invN (As := [.long v1, .int v3, .int v4]) (st := [.int t5, .ref t4]) dX3_append_31 ln3_19 (by unfold RM; decide) (Nat.le_of_ble_eq_true rfl) rfl rfl (T_X5_baseOf hl h0) ?_
        obtain ⟨S8, h0, h⟩ := bd h
        refine q_iastore h0 dX3_append_34 ?_
        refine r_aload_n dX3_append_35 rfl 0 rfl ?_
        refine r_dup dX3_append_36 rfl ?_
        obtain ⟨t9, h0, h⟩ := bd h
        refine q_getI h0 dX3_append_37 fl3_15 rfl ?_
        refine r_iconst (v := (1 : Int32)) dX3_append_40 (by decide) ?_
        refine r_iadd dX3_append_41 ?_
        obtain ⟨S10, h0, h⟩ := bd h
        refine q_putI h0 dX3_append_42 fl3_15 rfl ?_
        refine r_iinc (v := v4 + 1) (lv' := [(4, .int (v4 + 1)), (0, .ref v0), (1, .long v1), (3, .int v3)]) dX3_append_45 3 rfl rfl (by decide) rfl ?_
        refine r_goto (tgt := 3) dX3_append_48 (by decide) ?_
        refine r_sub [1, 2, 3, 0] rfl ?_
        exact ih v0 v1 v3 (v4 + 1) S10 h

def F_X3_append (v0 : Nat) (v1 : Int64) (v3 : Int32) (S : Mem) : Option Mem :=
    F_X3_append_L3 FU v0 v1 v3 (0 : Int32) S
set_option maxRecDepth 100000 in
theorem T_X3_append {g : GG} {l : Launch} (hl : l.stackTraces = false) {v0 : Nat} {v1 : Int64} {v3 : Int32} {S S' : Mem} (h : F_X3_append v0 v1 v3 S = some S') : Call g l uX3_append [.ref v0, .long v1, .int v3] S cvV S' := by
  refine call_of (by decide +kernel) hl rfl (Nat.le_of_ble_eq_true rfl) ?_
  show Run g l uX3_append _ 0 [(0, .ref v0), (1, .long v1), (3, .int v3)] [] 0 0 S
  unfold F_X3_append at h
  refine r_iconst (v := (0 : Int32)) dX3_append_0 (by decide) ?_
  refine r_istore (lv' := [(4, .int ((0 : Int32))), (0, .ref v0), (1, .long v1), (3, .int v3)]) dX3_append_1 (by decide) rfl ?_
  refine r_sub [1, 2, 3, 0] rfl ?_
  exact T_X3_append_L3 hl FU v0 v1 v3 (0 : Int32) S h

def F_X3_covers (v0 : Nat) (v1 : Int32) (v2 : Int32) (S : Mem) : Option (Int32 × Mem) :=
    if v1 < (1 : Int32) then
      some ((0 : Int32), S)
    else
      (pgI 3 1 S v0).bind fun t2 =>
      if ((t2 - v2) + (1 : Int32)) < v1 then
        some ((0 : Int32), S)
      else
        some ((1 : Int32), S)
set_option maxRecDepth 100000 in
theorem T_X3_covers {g : GG} {l : Launch} (hl : l.stackTraces = false) {v0 : Nat} {v1 : Int32} {v2 : Int32} {S S' : Mem} {r : Int32} (h : F_X3_covers v0 v1 v2 S = some (r, S')) : Call g l uX3_covers [.ref v0, .int v1, .int v2] S (cvI r) S' := by
  refine call_of (by decide +kernel) hl rfl (Nat.le_of_ble_eq_true rfl) ?_
  show Run g l uX3_covers _ 0 [(0, .ref v0), (1, .int v1), (2, .int v2)] [] 0 0 S
  unfold F_X3_covers at h
  refine r_iload_n dX3_covers_0 rfl 1 rfl ?_
  refine r_iconst (v := (1 : Int32)) dX3_covers_1 (by decide) ?_
  refine r_icmp_lt (tgt := 21) dX3_covers_2 (by decide) (fun c1 => ?_) (fun c1 => ?_)
  · rw [if_pos c1] at h
    refine r_iconst (v := (0 : Int32)) dX3_covers_21 (by decide) ?_
    cases h
    exact r_ireturn dX3_covers_22 rfl (by decide) (by decide) (by decide)
  · rw [if_neg c1] at h
    refine r_iload_n dX3_covers_5 rfl 1 rfl ?_
    refine r_aload_n dX3_covers_6 rfl 0 rfl ?_
    obtain ⟨t2, h0, h⟩ := bd h
    refine q_getI h0 dX3_covers_7 fl3_15 rfl ?_
    refine r_iload_n dX3_covers_10 rfl 2 rfl ?_
    refine r_isub dX3_covers_11 ?_
    refine r_iconst (v := (1 : Int32)) dX3_covers_12 (by decide) ?_
    refine r_iadd dX3_covers_13 ?_
    refine r_icmp_gt (tgt := 21) dX3_covers_14 (by decide) (fun c3 => ?_) (fun c3 => ?_)
    · rw [if_pos c3] at h
      refine r_iconst (v := (0 : Int32)) dX3_covers_21 (by decide) ?_
      cases h
      exact r_ireturn dX3_covers_22 rfl (by decide) (by decide) (by decide)
    · rw [if_neg c3] at h
      refine r_iconst (v := (1 : Int32)) dX3_covers_17 (by decide) ?_
      refine r_goto (tgt := 22) dX3_covers_18 (by decide) ?_
      cases h
      exact r_ireturn dX3_covers_22 rfl (by decide) (by decide) (by decide)

def F_X3_packed_L5 : Nat → Nat → Int32 → Int32 → Int32 → Int32 → Mem → Option (Int32 × Mem)
  | 0, _, _, _, _, _, _ => none
  | fu + 1, v0, v1, v2, v3, v4, S =>
    if v2 ≤ v4 then
      some (v3, S)
    else
      (pgR 3 0 S v0).bind fun t2 =>
      (paI S t2 ((v1 - (1 : Int32)) + v4)).bind fun t3 =>
      F_X3_packed_L5 fu v0 v1 v2 ((v3 <<< ((2 : Int32) &&& 31)) ||| t3) (v4 + 1) S
set_option maxRecDepth 100000 in
theorem T_X3_packed_L5 {g : GG} {l : Launch} (hl : l.stackTraces = false) {S' : Mem} {r : Int32}  : ∀ (fu : Nat) (v0 : Nat) (v1 : Int32) (v2 : Int32) (v3 : Int32) (v4 : Int32) (S : Mem), F_X3_packed_L5 fu v0 v1 v2 v3 v4 S = some (r, S') → Run g l uX3_packed (fin g uX3_packed (cvI r) S') 5 [(0, .ref v0), (1, .int v1), (2, .int v2), (3, .int v3), (4, .int v4)] [] 0 0 S := by
  intro fu
  induction fu with
  | zero =>
    intro v0 v1 v2 v3 v4 S h
    cases (show none = some _ from h)
  | succ fu ih =>
    intro v0 v1 v2 v3 v4 S h
    unfold F_X3_packed_L5 at h
    refine r_iload dX3_packed_5 4 rfl ?_
    refine r_iload_n dX3_packed_7 rfl 2 rfl ?_
    refine r_icmp_ge (tgt := 33) dX3_packed_8 (by decide) (fun c1 => ?_) (fun c1 => ?_)
    · rw [if_pos c1] at h
      refine r_iload_n dX3_packed_33 rfl 3 rfl ?_
      cases h
      exact r_ireturn dX3_packed_34 rfl rfl (by decide) (by decide)
    · rw [if_neg c1] at h
      refine r_iload_n dX3_packed_11 rfl 3 rfl ?_
      refine r_iconst (v := (2 : Int32)) dX3_packed_12 (by decide) ?_
      refine r_ishl dX3_packed_13 ?_
      refine r_aload_n dX3_packed_14 rfl 0 rfl ?_
      obtain ⟨t2, h0, h⟩ := bd h
      refine q_getR h0 dX3_packed_15 fl3_9 rfl ?_
      refine r_iload_n dX3_packed_18 rfl 1 rfl ?_
      refine r_iconst (v := (1 : Int32)) dX3_packed_19 (by decide) ?_
      refine r_isub dX3_packed_20 ?_
      refine r_iload dX3_packed_21 4 rfl ?_
      refine r_iadd dX3_packed_23 ?_
      obtain ⟨t3, h0, h⟩ := bd h
      refine q_iaload h0 dX3_packed_24 ?_
      refine r_ior dX3_packed_25 ?_
      refine r_istore_n (lv' := [(3, .int ((v3 <<< ((2 : Int32) &&& 31)) ||| t3)), (0, .ref v0), (1, .int v1), (2, .int v2), (4, .int v4)]) dX3_packed_26 rfl (by decide) rfl ?_
      refine r_iinc (v := v4 + 1) (lv' := [(4, .int (v4 + 1)), (3, .int ((v3 <<< ((2 : Int32) &&& 31)) ||| t3)), (0, .ref v0), (1, .int v1), (2, .int v2)]) dX3_packed_27 4 rfl rfl (by decide) rfl ?_
      refine r_goto (tgt := 5) dX3_packed_30 (by decide) ?_
      refine r_sub [2, 3, 4, 1, 0] rfl ?_
      exact ih v0 v1 v2 ((v3 <<< ((2 : Int32) &&& 31)) ||| t3) (v4 + 1) S h

def F_X3_packed (v0 : Nat) (v1 : Int32) (v2 : Int32) (S : Mem) : Option (Int32 × Mem) :=
    F_X3_packed_L5 FU v0 v1 v2 (0 : Int32) (0 : Int32) S
set_option maxRecDepth 100000 in
theorem T_X3_packed {g : GG} {l : Launch} (hl : l.stackTraces = false) {v0 : Nat} {v1 : Int32} {v2 : Int32} {S S' : Mem} {r : Int32} (h : F_X3_packed v0 v1 v2 S = some (r, S')) : Call g l uX3_packed [.ref v0, .int v1, .int v2] S (cvI r) S' := by
  refine call_of (by decide +kernel) hl rfl (Nat.le_of_ble_eq_true rfl) ?_
  show Run g l uX3_packed _ 0 [(0, .ref v0), (1, .int v1), (2, .int v2)] [] 0 0 S
  unfold F_X3_packed at h
  refine r_iconst (v := (0 : Int32)) dX3_packed_0 (by decide) ?_
  refine r_istore_n (lv' := [(3, .int ((0 : Int32))), (0, .ref v0), (1, .int v1), (2, .int v2)]) dX3_packed_1 rfl (by decide) rfl ?_
  refine r_iconst (v := (0 : Int32)) dX3_packed_2 (by decide) ?_
  refine r_istore (lv' := [(4, .int ((0 : Int32))), (3, .int ((0 : Int32))), (0, .ref v0), (1, .int v1), (2, .int v2)]) dX3_packed_3 (by decide) rfl ?_
  refine r_sub [2, 3, 4, 1, 0] rfl ?_
  exact T_X3_packed_L5 hl FU v0 v1 v2 (0 : Int32) (0 : Int32) S h

def F_X4_trimEnd_L27 : Nat → Nat → Nat → Int32 → Mem → Option (Int32 × Mem)
  | 0, _, _, _, _ => none
  | fu + 1, v0, v1, v2, S =>
    (pgI 4 2 S v0).bind fun t1 =>
    if t1 ≤ v2 then
      (pk 4 S v0).bind fun _ =>
      bd2 (F_X4_shortest v0 S) fun t4 S5 =>
      if t4 = 0 then
        (pgI 4 0 S5 v0).bind fun t7 =>
        (ppI 4 0 S5 v0 (t7 - (1 : Int32))).bind fun S8 =>
        (pgI 4 0 S8 v0).bind fun t9 =>
        (pk 3 S8 v1).bind fun _ =>
        bd2 (F_X3_packed v1 t9 (1 : Int32) S8) fun t11 S12 =>
        (pk 4 S12 v0).bind fun _ =>
        (F_X4_putInFront v0 t11 S12).bind fun S15 =>
        some ((1 : Int32), S15)
      else
        some ((1 : Int32), S5)
    else
      (pgR 4 3 S v0).bind fun t16 =>
      (pgR 4 3 S v0).bind fun t17 =>
      (paI S t17 v2).bind fun t18 =>
      (psI S t16 v2 (t18 >>> ((2 : Int32) &&& 31))).bind fun S19 =>
      (pgR 4 4 S19 v0).bind fun t20 =>
      (paI S19 t20 v2).bind fun t21 =>
      (psI S19 t20 v2 (t21 - (1 : Int32))).bind fun S22 =>
      F_X4_trimEnd_L27 fu v0 v1 (v2 + 1) S22
set_option maxRecDepth 100000 in
theorem T_X4_trimEnd_L27 {g : GG} {l : Launch} (hl : l.stackTraces = false) {S' : Mem} {r : Int32}  : ∀ (fu : Nat) (v0 : Nat) (v1 : Nat) (v2 : Int32) (S : Mem), F_X4_trimEnd_L27 fu v0 v1 v2 S = some (r, S') → Run g l uX4_trimEnd (fin g uX4_trimEnd (cvI r) S') 27 [(0, .ref v0), (1, .ref v1), (2, .int v2)] [] 0 0 S := by
  intro fu
  induction fu with
  | zero =>
    intro v0 v1 v2 S h
    cases (show none = some _ from h)
  | succ fu ih =>
    intro v0 v1 v2 S h
    unfold F_X4_trimEnd_L27 at h
    refine r_iload_n dX4_trimEnd_27 rfl 2 rfl ?_
    refine r_aload_n dX4_trimEnd_28 rfl 0 rfl ?_
    obtain ⟨t1, h0, h⟩ := bd h
    refine q_getI h0 dX4_trimEnd_29 fl4_38 rfl ?_
    refine r_icmp_ge (tgt := 65) dX4_trimEnd_32 (by decide) (fun c2 => ?_) (fun c2 => ?_)
    · rw [if_pos c2] at h
      refine r_aload_n dX4_trimEnd_65 rfl 0 rfl ?_
      obtain ⟨z3, hk, h⟩ := bd h
      obtain ⟨t4, S5, h0, h⟩ := bd2_s h
      refine r_invV (As := []) (st := []) dX4_trimEnd_66 lv4_70 (by unfold RM; decide) (Nat.le_of_ble_eq_true rfl) rfl rfl (pk_ok hk) (T_X4_shortest hl h0) ?_
      refine r_if_ne (tgt := 95) dX4_trimEnd_69 (by decide) (fun c6 => ?_) (fun c6 => ?_)
      · rw [if_neg c6] at h
        refine r_iconst (v := (1 : Int32)) dX4_trimEnd_95 (by decide) ?_
        cases h
        exact r_ireturn dX4_trimEnd_96 rfl (by decide) (by decide) (by decide)
      · rw [if_pos c6] at h
        refine r_aload_n dX4_trimEnd_72 rfl 0 rfl ?_
        refine r_dup dX4_trimEnd_73 rfl ?_
        obtain ⟨t7, h0, h⟩ := bd h
        refine q_getI h0 dX4_trimEnd_74 fl4_31 rfl ?_
        refine r_iconst (v := (1 : Int32)) dX4_trimEnd_77 (by decide) ?_
        refine r_isub dX4_trimEnd_78 ?_
        obtain ⟨S8, h0, h⟩ := bd h
        refine q_putI h0 dX4_trimEnd_79 fl4_31 rfl ?_
        refine r_aload_n dX4_trimEnd_82 rfl 0 rfl ?_
        refine r_aload_n dX4_trimEnd_83 rfl 1 rfl ?_
        refine r_aload_n dX4_trimEnd_84 rfl 0 rfl ?_
        obtain ⟨t9, h0, h⟩ := bd h
        refine q_getI h0 dX4_trimEnd_85 fl4_31 rfl ?_
        refine r_iconst (v := (1 : Int32)) dX4_trimEnd_88 (by decide) ?_
        obtain ⟨z10, hk, h⟩ := bd h
        obtain ⟨t11, S12, h0, h⟩ := bd2_s h
        refine r_invV (As := [.int t9, .int ((1 : Int32))]) (st := [.ref v0]) dX4_trimEnd_89 lv4_73 (by unfold RM; decide) (Nat.le_of_ble_eq_true rfl) rfl rfl (pk_ok hk) (T_X3_packed hl h0) ?_
        obtain ⟨z13, hk, h⟩ := bd h
        obtain ⟨S15, h0, h⟩ := bd h
        refine r_invV (As := [.int t11]) (st := []) dX4_trimEnd_92 lv4_78 (by unfold RM; decide) (Nat.le_of_ble_eq_true rfl) rfl rfl (pk_ok hk) (T_X4_putInFront hl h0) ?_
        refine r_iconst (v := (1 : Int32)) dX4_trimEnd_95 (by decide) ?_
        cases h
        exact r_ireturn dX4_trimEnd_96 rfl (by decide) (by decide) (by decide)
    · rw [if_neg c2] at h
      refine r_aload_n dX4_trimEnd_35 rfl 0 rfl ?_
      obtain ⟨t16, h0, h⟩ := bd h
      refine q_getR h0 dX4_trimEnd_36 fl4_9 rfl ?_
      refine r_iload_n dX4_trimEnd_39 rfl 2 rfl ?_
      refine r_aload_n dX4_trimEnd_40 rfl 0 rfl ?_
      obtain ⟨t17, h0, h⟩ := bd h
      refine q_getR h0 dX4_trimEnd_41 fl4_9 rfl ?_
      refine r_iload_n dX4_trimEnd_44 rfl 2 rfl ?_
      obtain ⟨t18, h0, h⟩ := bd h
      refine q_iaload h0 dX4_trimEnd_45 ?_
      refine r_iconst (v := (2 : Int32)) dX4_trimEnd_46 (by decide) ?_
      refine r_ishr dX4_trimEnd_47 ?_
      obtain ⟨S19, h0, h⟩ := bd h
      refine q_iastore h0 dX4_trimEnd_48 ?_
      refine r_aload_n dX4_trimEnd_49 rfl 0 rfl ?_
      obtain ⟨t20, h0, h⟩ := bd h
      refine q_getR h0 dX4_trimEnd_50 fl4_15 rfl ?_
      refine r_iload_n dX4_trimEnd_53 rfl 2 rfl ?_
      refine r_dup2 dX4_trimEnd_54 rfl rfl ?_
      obtain ⟨t21, h0, h⟩ := bd h
      refine q_iaload h0 dX4_trimEnd_55 ?_
      refine r_iconst (v := (1 : Int32)) dX4_trimEnd_56 (by decide) ?_
      refine r_isub dX4_trimEnd_57 ?_
      obtain ⟨S22, h0, h⟩ := bd h
      refine q_iastore h0 dX4_trimEnd_58 ?_
      refine r_iinc (v := v2 + 1) (lv' := [(2, .int (v2 + 1)), (0, .ref v0), (1, .ref v1)]) dX4_trimEnd_59 2 rfl rfl (by decide) rfl ?_
      refine r_goto (tgt := 27) dX4_trimEnd_62 (by decide) ?_
      refine r_sub [1, 2, 0] rfl ?_
      exact ih v0 v1 (v2 + 1) S22 h

def F_X4_trimEnd_J25 (v0 : Nat) (v1 : Nat) (S : Mem) : Option (Int32 × Mem) :=
    F_X4_trimEnd_L27 FU v0 v1 (0 : Int32) S
set_option maxRecDepth 100000 in
theorem T_X4_trimEnd_J25 {g : GG} {l : Launch} (hl : l.stackTraces = false) {S' : Mem} {r : Int32}  : ∀ (v0 : Nat) (v1 : Nat) (S : Mem), F_X4_trimEnd_J25 v0 v1 S = some (r, S') → Run g l uX4_trimEnd (fin g uX4_trimEnd (cvI r) S') 25 [(0, .ref v0), (1, .ref v1)] [] 0 0 S := by
  intro v0 v1 S h
  unfold F_X4_trimEnd_J25 at h
  refine r_iconst (v := (0 : Int32)) dX4_trimEnd_25 (by decide) ?_
  refine r_istore_n (lv' := [(2, .int ((0 : Int32))), (0, .ref v0), (1, .ref v1)]) dX4_trimEnd_26 rfl (by decide) rfl ?_
  refine r_sub [1, 2, 0] rfl ?_
  exact T_X4_trimEnd_L27 hl FU v0 v1 (0 : Int32) S h

def F_X4_trimEnd (v0 : Nat) (v1 : Nat) (S : Mem) : Option (Int32 × Mem) :=
    (pk 4 S v0).bind fun _ =>
    bd2 (F_X4_isLastBaseShared v0 S) fun t24 S25 =>
    if t24 = 0 then
      some ((0 : Int32), S25)
    else
      (pgI 4 0 S25 v0).bind fun t27 =>
      if t27 = (1 : Int32) then
        (pk 4 S25 v0).bind fun _ =>
        bd2 (F_X4_shortest v0 S25) fun t30 S31 =>
        if (2 : Int32) ≤ t30 then
          F_X4_trimEnd_J25 v0 v1 S31
        else
          some ((0 : Int32), S31)
      else
        F_X4_trimEnd_J25 v0 v1 S25
set_option maxRecDepth 100000 in
theorem T_X4_trimEnd {g : GG} {l : Launch} (hl : l.stackTraces = false) {v0 : Nat} {v1 : Nat} {S S' : Mem} {r : Int32} (h : F_X4_trimEnd v0 v1 S = some (r, S')) : Call g l uX4_trimEnd [.ref v0, .ref v1] S (cvI r) S' := by
  refine call_of (by decide +kernel) hl rfl (Nat.le_of_ble_eq_true rfl) ?_
  show Run g l uX4_trimEnd _ 0 [(0, .ref v0), (1, .ref v1)] [] 0 0 S
  unfold F_X4_trimEnd at h
  refine r_aload_n dX4_trimEnd_0 rfl 0 rfl ?_
  obtain ⟨z23, hk, h⟩ := bd h
  obtain ⟨t24, S25, h0, h⟩ := bd2_s h
  refine r_invV (As := []) (st := []) dX4_trimEnd_1 lv4_67 (by unfold RM; decide) (Nat.le_of_ble_eq_true rfl) rfl rfl (pk_ok hk) (T_X4_isLastBaseShared hl h0) ?_
  refine r_if_eq (tgt := 23) dX4_trimEnd_4 (by decide) (fun c26 => ?_) (fun c26 => ?_)
  · rw [if_pos c26] at h
    refine r_iconst (v := (0 : Int32)) dX4_trimEnd_23 (by decide) ?_
    cases h
    exact r_ireturn dX4_trimEnd_24 rfl (by decide) (by decide) (by decide)
  · rw [if_neg c26] at h
    refine r_aload_n dX4_trimEnd_7 rfl 0 rfl ?_
    obtain ⟨t27, h0, h⟩ := bd h
    refine q_getI h0 dX4_trimEnd_8 fl4_31 rfl ?_
    refine r_iconst (v := (1 : Int32)) dX4_trimEnd_11 (by decide) ?_
    refine r_icmp_ne (tgt := 25) dX4_trimEnd_12 (by decide) (fun c28 => ?_) (fun c28 => ?_)
    · rw [if_neg c28] at h
      exact T_X4_trimEnd_J25 hl v0 v1 S25 h
    · rw [if_pos c28] at h
      refine r_aload_n dX4_trimEnd_15 rfl 0 rfl ?_
      obtain ⟨z29, hk, h⟩ := bd h
      obtain ⟨t30, S31, h0, h⟩ := bd2_s h
      refine r_invV (As := []) (st := []) dX4_trimEnd_16 lv4_70 (by unfold RM; decide) (Nat.le_of_ble_eq_true rfl) rfl rfl (pk_ok hk) (T_X4_shortest hl h0) ?_
      refine r_iconst (v := (2 : Int32)) dX4_trimEnd_19 (by decide) ?_
      refine r_icmp_ge (tgt := 25) dX4_trimEnd_20 (by decide) (fun c32 => ?_) (fun c32 => ?_)
      · rw [if_pos c32] at h
        exact T_X4_trimEnd_J25 hl v0 v1 S31 h
      · rw [if_neg c32] at h
        refine r_iconst (v := (0 : Int32)) dX4_trimEnd_23 (by decide) ?_
        cases h
        exact r_ireturn dX4_trimEnd_24 rfl (by decide) (by decide) (by decide)
end
