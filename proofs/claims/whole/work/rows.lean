section
-- ===== PART A: goes FIRST, ahead of the names: the tables' words, and 'selects' of the private methods out of them =====
/-- a private method of a class that the tables say can be made, by its rows of tables_1 -/
def lw_okq (q : MethodName × Nat) : Prop := (q.1.cls ≠ "java/lang/invoke/MethodHandle" ∧ q.1.cls ≠ "java/lang/invoke/VarHandle") ∧ Cond.instantiable q.1.cls q.2 ∈ tables_1 ∧ Cond.privateMethod q.1 ∈ tables_1 ∧ Cond.instanceMethod q.1 ∈ tables_1
theorem lw_p0 : lw_okq (⟨"PreparedPlans", "appendWord", "(I)V"⟩, 7) := ⟨⟨by decide +kernel, by decide +kernel⟩, List.mem_of_getElem? (i := 33) (by decide +kernel), List.mem_of_getElem? (i := 294) (by decide +kernel), List.mem_of_getElem? (i := 295) (by decide +kernel)⟩
theorem lw_p1 : lw_okq (⟨"PreparedPlans", "spareCopy", "()LPreparedPlans$Data;"⟩, 7) := ⟨⟨by decide +kernel, by decide +kernel⟩, List.mem_of_getElem? (i := 33) (by decide +kernel), List.mem_of_getElem? (i := 306) (by decide +kernel), List.mem_of_getElem? (i := 307) (by decide +kernel)⟩
theorem lw_p2 : lw_okq (⟨"PreparedPlans", "spareSlot", "()I"⟩, 7) := ⟨⟨by decide +kernel, by decide +kernel⟩, List.mem_of_getElem? (i := 33) (by decide +kernel), List.mem_of_getElem? (i := 310) (by decide +kernel), List.mem_of_getElem? (i := 311) (by decide +kernel)⟩
theorem lw_p3 : lw_okq (⟨"PreparedPlans", "current", "()LPreparedPlans$Data;"⟩, 7) := ⟨⟨by decide +kernel, by decide +kernel⟩, List.mem_of_getElem? (i := 33) (by decide +kernel), List.mem_of_getElem? (i := 314) (by decide +kernel), List.mem_of_getElem? (i := 315) (by decide +kernel)⟩
theorem lw_p4 : lw_okq (⟨"PreparedPlans$Data", "takeStatisticsOf", "(I)V"⟩, 7) := ⟨⟨by decide +kernel, by decide +kernel⟩, List.mem_of_getElem? (i := 155) (by decide +kernel), List.mem_of_getElem? (i := 339) (by decide +kernel), List.mem_of_getElem? (i := 340) (by decide +kernel)⟩
theorem lw_p5 : lw_okq (⟨"PreparedPlans$Data", "isFirst", "(II)Z"⟩, 7) := ⟨⟨by decide +kernel, by decide +kernel⟩, List.mem_of_getElem? (i := 155) (by decide +kernel), List.mem_of_getElem? (i := 356) (by decide +kernel), List.mem_of_getElem? (i := 357) (by decide +kernel)⟩
theorem lw_p6 : lw_okq (⟨"PreparedPlans", "takeSpare", "()V"⟩, 7) := ⟨⟨by decide +kernel, by decide +kernel⟩, List.mem_of_getElem? (i := 33) (by decide +kernel), List.mem_of_getElem? (i := 360) (by decide +kernel), List.mem_of_getElem? (i := 361) (by decide +kernel)⟩
theorem lw_p7 : lw_okq (⟨"java/lang/Throwable", "fillInStackTrace", "(I)Ljava/lang/Throwable;"⟩, 6) := ⟨⟨by decide +kernel, by decide +kernel⟩, List.mem_of_getElem? (i := 420) (by decide +kernel), List.mem_of_getElem? (i := 418) (by decide +kernel), List.mem_of_getElem? (i := 419) (by decide +kernel)⟩
theorem lw_p8 : lw_okq (⟨"PreparedPlans", "checkColumn", "(I)V"⟩, 7) := ⟨⟨by decide +kernel, by decide +kernel⟩, List.mem_of_getElem? (i := 33) (by decide +kernel), List.mem_of_getElem? (i := 453) (by decide +kernel), List.mem_of_getElem? (i := 454) (by decide +kernel)⟩
theorem lw_p9 : lw_okq (⟨"PreparedPlans", "checkRow", "(I)V"⟩, 7) := ⟨⟨by decide +kernel, by decide +kernel⟩, List.mem_of_getElem? (i := 33) (by decide +kernel), List.mem_of_getElem? (i := 481) (by decide +kernel), List.mem_of_getElem? (i := 482) (by decide +kernel)⟩
theorem lw_p10 : lw_okq (⟨"PreparedPlans", "addStatement", "(JI)J"⟩, 7) := ⟨⟨by decide +kernel, by decide +kernel⟩, List.mem_of_getElem? (i := 33) (by decide +kernel), List.mem_of_getElem? (i := 487) (by decide +kernel), List.mem_of_getElem? (i := 488) (by decide +kernel)⟩
theorem lw_p11 : lw_okq (⟨"PreparedPlans", "checkStatement", "(I)V"⟩, 7) := ⟨⟨by decide +kernel, by decide +kernel⟩, List.mem_of_getElem? (i := 33) (by decide +kernel), List.mem_of_getElem? (i := 495) (by decide +kernel), List.mem_of_getElem? (i := 496) (by decide +kernel)⟩
theorem lw_p12 : lw_okq (⟨"PreparedPlans", "checkLength", "(I)V"⟩, 7) := ⟨⟨by decide +kernel, by decide +kernel⟩, List.mem_of_getElem? (i := 33) (by decide +kernel), List.mem_of_getElem? (i := 540) (by decide +kernel), List.mem_of_getElem? (i := 541) (by decide +kernel)⟩
theorem lw_p13 : lw_okq (⟨"PreparedPlans$Tokens", "addWord", "([BII)I"⟩, 8) := ⟨⟨by decide +kernel, by decide +kernel⟩, List.mem_of_getElem? (i := 41) (by decide +kernel), List.mem_of_getElem? (i := 552) (by decide +kernel), List.mem_of_getElem? (i := 553) (by decide +kernel)⟩
theorem lw_p14 : lw_okq (⟨"PreparedPlans$Tokens", "add", "(IIJ)V"⟩, 8) := ⟨⟨by decide +kernel, by decide +kernel⟩, List.mem_of_getElem? (i := 41) (by decide +kernel), List.mem_of_getElem? (i := 617) (by decide +kernel), List.mem_of_getElem? (i := 618) (by decide +kernel)⟩
theorem lw_p15 : lw_okq (⟨"PreparedPlans$Tokens", "addNumber", "([BII)I"⟩, 8) := ⟨⟨by decide +kernel, by decide +kernel⟩, List.mem_of_getElem? (i := 41) (by decide +kernel), List.mem_of_getElem? (i := 624) (by decide +kernel), List.mem_of_getElem? (i := 625) (by decide +kernel)⟩
def lw_privs_1 : List (MethodName × Nat) := [(⟨"PreparedPlans", "appendWord", "(I)V"⟩, 7), (⟨"PreparedPlans", "spareCopy", "()LPreparedPlans$Data;"⟩, 7), (⟨"PreparedPlans", "spareSlot", "()I"⟩, 7), (⟨"PreparedPlans", "current", "()LPreparedPlans$Data;"⟩, 7), (⟨"PreparedPlans$Data", "takeStatisticsOf", "(I)V"⟩, 7), (⟨"PreparedPlans$Data", "isFirst", "(II)Z"⟩, 7), (⟨"PreparedPlans", "takeSpare", "()V"⟩, 7), (⟨"java/lang/Throwable", "fillInStackTrace", "(I)Ljava/lang/Throwable;"⟩, 6), (⟨"PreparedPlans", "checkColumn", "(I)V"⟩, 7), (⟨"PreparedPlans", "checkRow", "(I)V"⟩, 7), (⟨"PreparedPlans", "addStatement", "(JI)J"⟩, 7), (⟨"PreparedPlans", "checkStatement", "(I)V"⟩, 7), (⟨"PreparedPlans", "checkLength", "(I)V"⟩, 7), (⟨"PreparedPlans$Tokens", "addWord", "([BII)I"⟩, 8), (⟨"PreparedPlans$Tokens", "add", "(IIJ)V"⟩, 8), (⟨"PreparedPlans$Tokens", "addNumber", "([BII)I"⟩, 8)]
theorem lw_r1 : ∀ q ∈ lw_privs_1, lw_okq q := List.forall_mem_cons.mpr ⟨lw_p0, List.forall_mem_cons.mpr ⟨lw_p1, List.forall_mem_cons.mpr ⟨lw_p2, List.forall_mem_cons.mpr ⟨lw_p3, List.forall_mem_cons.mpr ⟨lw_p4, List.forall_mem_cons.mpr ⟨lw_p5, List.forall_mem_cons.mpr ⟨lw_p6, List.forall_mem_cons.mpr ⟨lw_p7, List.forall_mem_cons.mpr ⟨lw_p8, List.forall_mem_cons.mpr ⟨lw_p9, List.forall_mem_cons.mpr ⟨lw_p10, List.forall_mem_cons.mpr ⟨lw_p11, List.forall_mem_cons.mpr ⟨lw_p12, List.forall_mem_cons.mpr ⟨lw_p13, List.forall_mem_cons.mpr ⟨lw_p14, List.forall_mem_cons.mpr ⟨lw_p15, fun _ h => absurd h List.not_mem_nil⟩⟩⟩⟩⟩⟩⟩⟩⟩⟩⟩⟩⟩⟩⟩⟩
theorem lw_p16 : lw_okq (⟨"PreparedPlans$SetupReader", "expectWord", "(Ljava/lang/String;)V"⟩, 6) := ⟨⟨by decide +kernel, by decide +kernel⟩, List.mem_of_getElem? (i := 629) (by decide +kernel), List.mem_of_getElem? (i := 675) (by decide +kernel), List.mem_of_getElem? (i := 676) (by decide +kernel)⟩
theorem lw_p17 : lw_okq (⟨"PreparedPlans$SetupReader", "fail", "(II)V"⟩, 6) := ⟨⟨by decide +kernel, by decide +kernel⟩, List.mem_of_getElem? (i := 629) (by decide +kernel), List.mem_of_getElem? (i := 683) (by decide +kernel), List.mem_of_getElem? (i := 684) (by decide +kernel)⟩
theorem lw_p18 : lw_okq (⟨"PreparedPlans$SetupReader", "expectByte", "(C)V"⟩, 6) := ⟨⟨by decide +kernel, by decide +kernel⟩, List.mem_of_getElem? (i := 629) (by decide +kernel), List.mem_of_getElem? (i := 687) (by decide +kernel), List.mem_of_getElem? (i := 688) (by decide +kernel)⟩
theorem lw_p19 : lw_okq (⟨"PreparedPlans$SetupReader", "readColumn", "()V"⟩, 6) := ⟨⟨by decide +kernel, by decide +kernel⟩, List.mem_of_getElem? (i := 629) (by decide +kernel), List.mem_of_getElem? (i := 692) (by decide +kernel), List.mem_of_getElem? (i := 693) (by decide +kernel)⟩
theorem lw_p20 : lw_okq (⟨"PreparedPlans$SetupReader", "takeName", "()J"⟩, 6) := ⟨⟨by decide +kernel, by decide +kernel⟩, List.mem_of_getElem? (i := 629) (by decide +kernel), List.mem_of_getElem? (i := 696) (by decide +kernel), List.mem_of_getElem? (i := 697) (by decide +kernel)⟩
theorem lw_p21 : lw_okq (⟨"PreparedPlans$SetupReader", "takeType", "()I"⟩, 6) := ⟨⟨by decide +kernel, by decide +kernel⟩, List.mem_of_getElem? (i := 629) (by decide +kernel), List.mem_of_getElem? (i := 704) (by decide +kernel), List.mem_of_getElem? (i := 705) (by decide +kernel)⟩
theorem lw_p22 : lw_okq (⟨"PreparedPlans$SetupReader", "readIndex", "()V"⟩, 6) := ⟨⟨by decide +kernel, by decide +kernel⟩, List.mem_of_getElem? (i := 629) (by decide +kernel), List.mem_of_getElem? (i := 716) (by decide +kernel), List.mem_of_getElem? (i := 717) (by decide +kernel)⟩
theorem lw_p23 : lw_okq (⟨"PreparedPlans$SetupReader", "takeColumn", "()I"⟩, 6) := ⟨⟨by decide +kernel, by decide +kernel⟩, List.mem_of_getElem? (i := 629) (by decide +kernel), List.mem_of_getElem? (i := 720) (by decide +kernel), List.mem_of_getElem? (i := 721) (by decide +kernel)⟩
theorem lw_p24 : lw_okq (⟨"PreparedPlans$SetupReader", "readRow", "()V"⟩, 6) := ⟨⟨by decide +kernel, by decide +kernel⟩, List.mem_of_getElem? (i := 629) (by decide +kernel), List.mem_of_getElem? (i := 725) (by decide +kernel), List.mem_of_getElem? (i := 726) (by decide +kernel)⟩
theorem lw_p25 : lw_okq (⟨"PreparedPlans$SetupReader", "takeNumber", "(I)I"⟩, 6) := ⟨⟨by decide +kernel, by decide +kernel⟩, List.mem_of_getElem? (i := 629) (by decide +kernel), List.mem_of_getElem? (i := 733) (by decide +kernel), List.mem_of_getElem? (i := 734) (by decide +kernel)⟩
theorem lw_p26 : lw_okq (⟨"PreparedPlans$SetupReader", "readPrepare", "()V"⟩, 6) := ⟨⟨by decide +kernel, by decide +kernel⟩, List.mem_of_getElem? (i := 629) (by decide +kernel), List.mem_of_getElem? (i := 742) (by decide +kernel), List.mem_of_getElem? (i := 743) (by decide +kernel)⟩
theorem lw_p27 : lw_okq (⟨"PreparedPlans$SetupReader", "readCondition", "(I)LPreparedPlans$Condition;"⟩, 6) := ⟨⟨by decide +kernel, by decide +kernel⟩, List.mem_of_getElem? (i := 629) (by decide +kernel), List.mem_of_getElem? (i := 756) (by decide +kernel), List.mem_of_getElem? (i := 757) (by decide +kernel)⟩
theorem lw_p28 : lw_okq (⟨"java/util/ArrayList", "add", "(Ljava/lang/Object;[Ljava/lang/Object;I)V"⟩, 3) := ⟨⟨by decide +kernel, by decide +kernel⟩, List.mem_of_getElem? (i := 87) (by decide +kernel), List.mem_of_getElem? (i := 783) (by decide +kernel), List.mem_of_getElem? (i := 784) (by decide +kernel)⟩
theorem lw_p29 : lw_okq (⟨"java/util/ArrayList", "grow", "()[Ljava/lang/Object;"⟩, 3) := ⟨⟨by decide +kernel, by decide +kernel⟩, List.mem_of_getElem? (i := 87) (by decide +kernel), List.mem_of_getElem? (i := 787) (by decide +kernel), List.mem_of_getElem? (i := 788) (by decide +kernel)⟩
theorem lw_p30 : lw_okq (⟨"java/util/ArrayList", "grow", "(I)[Ljava/lang/Object;"⟩, 3) := ⟨⟨by decide +kernel, by decide +kernel⟩, List.mem_of_getElem? (i := 87) (by decide +kernel), List.mem_of_getElem? (i := 791) (by decide +kernel), List.mem_of_getElem? (i := 792) (by decide +kernel)⟩
theorem lw_p31 : lw_okq (⟨"PreparedPlans$SetupReader", "readFactor", "(I)LPreparedPlans$Condition;"⟩, 6) := ⟨⟨by decide +kernel, by decide +kernel⟩, List.mem_of_getElem? (i := 629) (by decide +kernel), List.mem_of_getElem? (i := 835) (by decide +kernel), List.mem_of_getElem? (i := 836) (by decide +kernel)⟩
def lw_privs_2 : List (MethodName × Nat) := [(⟨"PreparedPlans$SetupReader", "expectWord", "(Ljava/lang/String;)V"⟩, 6), (⟨"PreparedPlans$SetupReader", "fail", "(II)V"⟩, 6), (⟨"PreparedPlans$SetupReader", "expectByte", "(C)V"⟩, 6), (⟨"PreparedPlans$SetupReader", "readColumn", "()V"⟩, 6), (⟨"PreparedPlans$SetupReader", "takeName", "()J"⟩, 6), (⟨"PreparedPlans$SetupReader", "takeType", "()I"⟩, 6), (⟨"PreparedPlans$SetupReader", "readIndex", "()V"⟩, 6), (⟨"PreparedPlans$SetupReader", "takeColumn", "()I"⟩, 6), (⟨"PreparedPlans$SetupReader", "readRow", "()V"⟩, 6), (⟨"PreparedPlans$SetupReader", "takeNumber", "(I)I"⟩, 6), (⟨"PreparedPlans$SetupReader", "readPrepare", "()V"⟩, 6), (⟨"PreparedPlans$SetupReader", "readCondition", "(I)LPreparedPlans$Condition;"⟩, 6), (⟨"java/util/ArrayList", "add", "(Ljava/lang/Object;[Ljava/lang/Object;I)V"⟩, 3), (⟨"java/util/ArrayList", "grow", "()[Ljava/lang/Object;"⟩, 3), (⟨"java/util/ArrayList", "grow", "(I)[Ljava/lang/Object;"⟩, 3), (⟨"PreparedPlans$SetupReader", "readFactor", "(I)LPreparedPlans$Condition;"⟩, 6)]
theorem lw_r2 : ∀ q ∈ lw_privs_2, lw_okq q := List.forall_mem_cons.mpr ⟨lw_p16, List.forall_mem_cons.mpr ⟨lw_p17, List.forall_mem_cons.mpr ⟨lw_p18, List.forall_mem_cons.mpr ⟨lw_p19, List.forall_mem_cons.mpr ⟨lw_p20, List.forall_mem_cons.mpr ⟨lw_p21, List.forall_mem_cons.mpr ⟨lw_p22, List.forall_mem_cons.mpr ⟨lw_p23, List.forall_mem_cons.mpr ⟨lw_p24, List.forall_mem_cons.mpr ⟨lw_p25, List.forall_mem_cons.mpr ⟨lw_p26, List.forall_mem_cons.mpr ⟨lw_p27, List.forall_mem_cons.mpr ⟨lw_p28, List.forall_mem_cons.mpr ⟨lw_p29, List.forall_mem_cons.mpr ⟨lw_p30, List.forall_mem_cons.mpr ⟨lw_p31, fun _ h => absurd h List.not_mem_nil⟩⟩⟩⟩⟩⟩⟩⟩⟩⟩⟩⟩⟩⟩⟩⟩
theorem lw_p32 : lw_okq (⟨"PreparedPlans$SetupReader", "readNested", "(I)LPreparedPlans$Condition;"⟩, 6) := ⟨⟨by decide +kernel, by decide +kernel⟩, List.mem_of_getElem? (i := 629) (by decide +kernel), List.mem_of_getElem? (i := 839) (by decide +kernel), List.mem_of_getElem? (i := 840) (by decide +kernel)⟩
theorem lw_p33 : lw_okq (⟨"PreparedPlans$SetupReader", "takeSign", "()C"⟩, 6) := ⟨⟨by decide +kernel, by decide +kernel⟩, List.mem_of_getElem? (i := 629) (by decide +kernel), List.mem_of_getElem? (i := 843) (by decide +kernel), List.mem_of_getElem? (i := 844) (by decide +kernel)⟩
theorem lw_p34 : lw_okq (⟨"PreparedPlans$SetupReader", "takeHole", "(I)I"⟩, 6) := ⟨⟨by decide +kernel, by decide +kernel⟩, List.mem_of_getElem? (i := 629) (by decide +kernel), List.mem_of_getElem? (i := 869) (by decide +kernel), List.mem_of_getElem? (i := 870) (by decide +kernel)⟩
theorem lw_p35 : lw_okq (⟨"PreparedPlans$SetupReader", "readCost", "()V"⟩, 6) := ⟨⟨by decide +kernel, by decide +kernel⟩, List.mem_of_getElem? (i := 629) (by decide +kernel), List.mem_of_getElem? (i := 912) (by decide +kernel), List.mem_of_getElem? (i := 913) (by decide +kernel)⟩
theorem lw_p36 : lw_okq (⟨"PreparedPlans$SetupReader", "readTries", "()V"⟩, 6) := ⟨⟨by decide +kernel, by decide +kernel⟩, List.mem_of_getElem? (i := 629) (by decide +kernel), List.mem_of_getElem? (i := 917) (by decide +kernel), List.mem_of_getElem? (i := 918) (by decide +kernel)⟩
theorem lw_p37 : lw_okq (⟨"PreparedPlans", "checkPlan", "(I)V"⟩, 7) := ⟨⟨by decide +kernel, by decide +kernel⟩, List.mem_of_getElem? (i := 33) (by decide +kernel), List.mem_of_getElem? (i := 968) (by decide +kernel), List.mem_of_getElem? (i := 969) (by decide +kernel)⟩
theorem lw_p38 : lw_okq (⟨"PreparedPlans$Data", "chosenFor", "(II[I)LPreparedPlans$Comparison;"⟩, 7) := ⟨⟨by decide +kernel, by decide +kernel⟩, List.mem_of_getElem? (i := 155) (by decide +kernel), List.mem_of_getElem? (i := 979) (by decide +kernel), List.mem_of_getElem? (i := 980) (by decide +kernel)⟩
theorem lw_p39 : lw_okq (⟨"PreparedPlans$Statistics", "estimateEqual", "(II)I"⟩, 4) := ⟨⟨by decide +kernel, by decide +kernel⟩, List.mem_of_getElem? (i := 161) (by decide +kernel), List.mem_of_getElem? (i := 995) (by decide +kernel), List.mem_of_getElem? (i := 996) (by decide +kernel)⟩
theorem lw_p40 : lw_okq (⟨"PreparedPlans", "checkedValues", "(IIIII)[I"⟩, 7) := ⟨⟨by decide +kernel, by decide +kernel⟩, List.mem_of_getElem? (i := 33) (by decide +kernel), List.mem_of_getElem? (i := 1008) (by decide +kernel), List.mem_of_getElem? (i := 1009) (by decide +kernel)⟩
theorem lw_p41 : lw_okq (⟨"PreparedPlans$Comparison", "holds", "(II)Z"⟩, 4) := ⟨⟨by decide +kernel, by decide +kernel⟩, List.mem_of_getElem? (i := 847) (by decide +kernel), List.mem_of_getElem? (i := 1070) (by decide +kernel), List.mem_of_getElem? (i := 1071) (by decide +kernel)⟩
theorem lw_p42 : lw_okq (⟨"PreparedPlansModel", "plain", "()V"⟩, 20) := ⟨⟨by decide +kernel, by decide +kernel⟩, List.mem_of_getElem? (i := 1153) (by decide +kernel), List.mem_of_getElem? (i := 1159) (by decide +kernel), List.mem_of_getElem? (i := 1160) (by decide +kernel)⟩
theorem lw_p43 : lw_okq (⟨"PreparedPlansModel", "put", "(II)V"⟩, 20) := ⟨⟨by decide +kernel, by decide +kernel⟩, List.mem_of_getElem? (i := 1153) (by decide +kernel), List.mem_of_getElem? (i := 1163) (by decide +kernel), List.mem_of_getElem? (i := 1164) (by decide +kernel)⟩
theorem lw_p44 : lw_okq (⟨"PreparedPlansModel", "right", "(ZI)Z"⟩, 20) := ⟨⟨by decide +kernel, by decide +kernel⟩, List.mem_of_getElem? (i := 1153) (by decide +kernel), List.mem_of_getElem? (i := 1243) (by decide +kernel), List.mem_of_getElem? (i := 1244) (by decide +kernel)⟩
theorem lw_p45 : lw_okq (⟨"PreparedPlansModel", "texts", "()V"⟩, 20) := ⟨⟨by decide +kernel, by decide +kernel⟩, List.mem_of_getElem? (i := 1153) (by decide +kernel), List.mem_of_getElem? (i := 1247) (by decide +kernel), List.mem_of_getElem? (i := 1248) (by decide +kernel)⟩
theorem lw_p46 : lw_okq (⟨"PreparedPlansModel", "takes", "(Ljava/lang/String;)Z"⟩, 20) := ⟨⟨by decide +kernel, by decide +kernel⟩, List.mem_of_getElem? (i := 1153) (by decide +kernel), List.mem_of_getElem? (i := 1252) (by decide +kernel), List.mem_of_getElem? (i := 1253) (by decide +kernel)⟩
theorem lw_p47 : lw_okq (⟨"PreparedPlansModel", "isHere", "(Ljava/lang/String;)Z"⟩, 20) := ⟨⟨by decide +kernel, by decide +kernel⟩, List.mem_of_getElem? (i := 1153) (by decide +kernel), List.mem_of_getElem? (i := 1256) (by decide +kernel), List.mem_of_getElem? (i := 1257) (by decide +kernel)⟩
def lw_privs_3 : List (MethodName × Nat) := [(⟨"PreparedPlans$SetupReader", "readNested", "(I)LPreparedPlans$Condition;"⟩, 6), (⟨"PreparedPlans$SetupReader", "takeSign", "()C"⟩, 6), (⟨"PreparedPlans$SetupReader", "takeHole", "(I)I"⟩, 6), (⟨"PreparedPlans$SetupReader", "readCost", "()V"⟩, 6), (⟨"PreparedPlans$SetupReader", "readTries", "()V"⟩, 6), (⟨"PreparedPlans", "checkPlan", "(I)V"⟩, 7), (⟨"PreparedPlans$Data", "chosenFor", "(II[I)LPreparedPlans$Comparison;"⟩, 7), (⟨"PreparedPlans$Statistics", "estimateEqual", "(II)I"⟩, 4), (⟨"PreparedPlans", "checkedValues", "(IIIII)[I"⟩, 7), (⟨"PreparedPlans$Comparison", "holds", "(II)Z"⟩, 4), (⟨"PreparedPlansModel", "plain", "()V"⟩, 20), (⟨"PreparedPlansModel", "put", "(II)V"⟩, 20), (⟨"PreparedPlansModel", "right", "(ZI)Z"⟩, 20), (⟨"PreparedPlansModel", "texts", "()V"⟩, 20), (⟨"PreparedPlansModel", "takes", "(Ljava/lang/String;)Z"⟩, 20), (⟨"PreparedPlansModel", "isHere", "(Ljava/lang/String;)Z"⟩, 20)]
theorem lw_r3 : ∀ q ∈ lw_privs_3, lw_okq q := List.forall_mem_cons.mpr ⟨lw_p32, List.forall_mem_cons.mpr ⟨lw_p33, List.forall_mem_cons.mpr ⟨lw_p34, List.forall_mem_cons.mpr ⟨lw_p35, List.forall_mem_cons.mpr ⟨lw_p36, List.forall_mem_cons.mpr ⟨lw_p37, List.forall_mem_cons.mpr ⟨lw_p38, List.forall_mem_cons.mpr ⟨lw_p39, List.forall_mem_cons.mpr ⟨lw_p40, List.forall_mem_cons.mpr ⟨lw_p41, List.forall_mem_cons.mpr ⟨lw_p42, List.forall_mem_cons.mpr ⟨lw_p43, List.forall_mem_cons.mpr ⟨lw_p44, List.forall_mem_cons.mpr ⟨lw_p45, List.forall_mem_cons.mpr ⟨lw_p46, List.forall_mem_cons.mpr ⟨lw_p47, fun _ h => absurd h List.not_mem_nil⟩⟩⟩⟩⟩⟩⟩⟩⟩⟩⟩⟩⟩⟩⟩⟩
theorem lw_p48 : lw_okq (⟨"PreparedPlansModel", "wordEnd", "()I"⟩, 20) := ⟨⟨by decide +kernel, by decide +kernel⟩, List.mem_of_getElem? (i := 1153) (by decide +kernel), List.mem_of_getElem? (i := 1260) (by decide +kernel), List.mem_of_getElem? (i := 1261) (by decide +kernel)⟩
theorem lw_p49 : lw_okq (⟨"PreparedPlansModel", "sees", "()I"⟩, 20) := ⟨⟨by decide +kernel, by decide +kernel⟩, List.mem_of_getElem? (i := 1153) (by decide +kernel), List.mem_of_getElem? (i := 1264) (by decide +kernel), List.mem_of_getElem? (i := 1265) (by decide +kernel)⟩
theorem lw_p50 : lw_okq (⟨"PreparedPlansModel", "fails", "(II)V"⟩, 20) := ⟨⟨by decide +kernel, by decide +kernel⟩, List.mem_of_getElem? (i := 1153) (by decide +kernel), List.mem_of_getElem? (i := 1273) (by decide +kernel), List.mem_of_getElem? (i := 1274) (by decide +kernel)⟩
theorem lw_p51 : lw_okq (⟨"PreparedPlansModel", "wants", "(I)V"⟩, 20) := ⟨⟨by decide +kernel, by decide +kernel⟩, List.mem_of_getElem? (i := 1153) (by decide +kernel), List.mem_of_getElem? (i := 1277) (by decide +kernel), List.mem_of_getElem? (i := 1278) (by decide +kernel)⟩
theorem lw_p52 : lw_okq (⟨"PreparedPlansModel", "startOf", "(Ljava/lang/String;)I"⟩, 20) := ⟨⟨by decide +kernel, by decide +kernel⟩, List.mem_of_getElem? (i := 1153) (by decide +kernel), List.mem_of_getElem? (i := 1282) (by decide +kernel), List.mem_of_getElem? (i := 1283) (by decide +kernel)⟩
theorem lw_p53 : lw_okq (⟨"PreparedPlansModel", "columnLine", "(I)V"⟩, 20) := ⟨⟨by decide +kernel, by decide +kernel⟩, List.mem_of_getElem? (i := 1153) (by decide +kernel), List.mem_of_getElem? (i := 1286) (by decide +kernel), List.mem_of_getElem? (i := 1287) (by decide +kernel)⟩
theorem lw_p54 : lw_okq (⟨"PreparedPlansModel", "freshName", "(III)V"⟩, 20) := ⟨⟨by decide +kernel, by decide +kernel⟩, List.mem_of_getElem? (i := 1153) (by decide +kernel), List.mem_of_getElem? (i := 1290) (by decide +kernel), List.mem_of_getElem? (i := 1291) (by decide +kernel)⟩
theorem lw_p55 : lw_okq (⟨"PreparedPlansModel", "isName", "()Z"⟩, 20) := ⟨⟨by decide +kernel, by decide +kernel⟩, List.mem_of_getElem? (i := 1153) (by decide +kernel), List.mem_of_getElem? (i := 1294) (by decide +kernel), List.mem_of_getElem? (i := 1295) (by decide +kernel)⟩
theorem lw_p56 : lw_okq (⟨"PreparedPlansModel", "reach", "()V"⟩, 20) := ⟨⟨by decide +kernel, by decide +kernel⟩, List.mem_of_getElem? (i := 1153) (by decide +kernel), List.mem_of_getElem? (i := 1301) (by decide +kernel), List.mem_of_getElem? (i := 1302) (by decide +kernel)⟩
theorem lw_p57 : lw_okq (⟨"PreparedPlansModel", "seek", "(III)I"⟩, 20) := ⟨⟨by decide +kernel, by decide +kernel⟩, List.mem_of_getElem? (i := 1153) (by decide +kernel), List.mem_of_getElem? (i := 1305) (by decide +kernel), List.mem_of_getElem? (i := 1306) (by decide +kernel)⟩
theorem lw_p58 : lw_okq (⟨"PreparedPlansModel", "nameInto", "(I)V"⟩, 20) := ⟨⟨by decide +kernel, by decide +kernel⟩, List.mem_of_getElem? (i := 1153) (by decide +kernel), List.mem_of_getElem? (i := 1309) (by decide +kernel), List.mem_of_getElem? (i := 1310) (by decide +kernel)⟩
theorem lw_p59 : lw_okq (⟨"PreparedPlansModel", "indexLine", "()V"⟩, 20) := ⟨⟨by decide +kernel, by decide +kernel⟩, List.mem_of_getElem? (i := 1153) (by decide +kernel), List.mem_of_getElem? (i := 1320) (by decide +kernel), List.mem_of_getElem? (i := 1321) (by decide +kernel)⟩
theorem lw_p60 : lw_okq (⟨"PreparedPlansModel", "knownColumn", "()I"⟩, 20) := ⟨⟨by decide +kernel, by decide +kernel⟩, List.mem_of_getElem? (i := 1153) (by decide +kernel), List.mem_of_getElem? (i := 1324) (by decide +kernel), List.mem_of_getElem? (i := 1325) (by decide +kernel)⟩
theorem lw_p61 : lw_okq (⟨"PreparedPlansModel", "rowLine", "(I)V"⟩, 20) := ⟨⟨by decide +kernel, by decide +kernel⟩, List.mem_of_getElem? (i := 1153) (by decide +kernel), List.mem_of_getElem? (i := 1329) (by decide +kernel), List.mem_of_getElem? (i := 1330) (by decide +kernel)⟩
theorem lw_p62 : lw_okq (⟨"PreparedPlansModel", "reads", "(II)I"⟩, 20) := ⟨⟨by decide +kernel, by decide +kernel⟩, List.mem_of_getElem? (i := 1153) (by decide +kernel), List.mem_of_getElem? (i := 1339) (by decide +kernel), List.mem_of_getElem? (i := 1340) (by decide +kernel)⟩
theorem lw_p63 : lw_okq (⟨"PreparedPlansModel", "isDigit", "()Z"⟩, 20) := ⟨⟨by decide +kernel, by decide +kernel⟩, List.mem_of_getElem? (i := 1153) (by decide +kernel), List.mem_of_getElem? (i := 1343) (by decide +kernel), List.mem_of_getElem? (i := 1344) (by decide +kernel)⟩
def lw_privs_4 : List (MethodName × Nat) := [(⟨"PreparedPlansModel", "wordEnd", "()I"⟩, 20), (⟨"PreparedPlansModel", "sees", "()I"⟩, 20), (⟨"PreparedPlansModel", "fails", "(II)V"⟩, 20), (⟨"PreparedPlansModel", "wants", "(I)V"⟩, 20), (⟨"PreparedPlansModel", "startOf", "(Ljava/lang/String;)I"⟩, 20), (⟨"PreparedPlansModel", "columnLine", "(I)V"⟩, 20), (⟨"PreparedPlansModel", "freshName", "(III)V"⟩, 20), (⟨"PreparedPlansModel", "isName", "()Z"⟩, 20), (⟨"PreparedPlansModel", "reach", "()V"⟩, 20), (⟨"PreparedPlansModel", "seek", "(III)I"⟩, 20), (⟨"PreparedPlansModel", "nameInto", "(I)V"⟩, 20), (⟨"PreparedPlansModel", "indexLine", "()V"⟩, 20), (⟨"PreparedPlansModel", "knownColumn", "()I"⟩, 20), (⟨"PreparedPlansModel", "rowLine", "(I)V"⟩, 20), (⟨"PreparedPlansModel", "reads", "(II)I"⟩, 20), (⟨"PreparedPlansModel", "isDigit", "()Z"⟩, 20)]
theorem lw_r4 : ∀ q ∈ lw_privs_4, lw_okq q := List.forall_mem_cons.mpr ⟨lw_p48, List.forall_mem_cons.mpr ⟨lw_p49, List.forall_mem_cons.mpr ⟨lw_p50, List.forall_mem_cons.mpr ⟨lw_p51, List.forall_mem_cons.mpr ⟨lw_p52, List.forall_mem_cons.mpr ⟨lw_p53, List.forall_mem_cons.mpr ⟨lw_p54, List.forall_mem_cons.mpr ⟨lw_p55, List.forall_mem_cons.mpr ⟨lw_p56, List.forall_mem_cons.mpr ⟨lw_p57, List.forall_mem_cons.mpr ⟨lw_p58, List.forall_mem_cons.mpr ⟨lw_p59, List.forall_mem_cons.mpr ⟨lw_p60, List.forall_mem_cons.mpr ⟨lw_p61, List.forall_mem_cons.mpr ⟨lw_p62, List.forall_mem_cons.mpr ⟨lw_p63, fun _ h => absurd h List.not_mem_nil⟩⟩⟩⟩⟩⟩⟩⟩⟩⟩⟩⟩⟩⟩⟩⟩
theorem lw_p64 : lw_okq (⟨"PreparedPlansModel", "prepareLine", "(I)V"⟩, 20) := ⟨⟨by decide +kernel, by decide +kernel⟩, List.mem_of_getElem? (i := 1153) (by decide +kernel), List.mem_of_getElem? (i := 1350) (by decide +kernel), List.mem_of_getElem? (i := 1351) (by decide +kernel)⟩
theorem lw_p65 : lw_okq (⟨"PreparedPlansModel", "condition", "(Z)V"⟩, 20) := ⟨⟨by decide +kernel, by decide +kernel⟩, List.mem_of_getElem? (i := 1153) (by decide +kernel), List.mem_of_getElem? (i := 1357) (by decide +kernel), List.mem_of_getElem? (i := 1358) (by decide +kernel)⟩
theorem lw_p66 : lw_okq (⟨"PreparedPlansModel", "term", "(Z)V"⟩, 20) := ⟨⟨by decide +kernel, by decide +kernel⟩, List.mem_of_getElem? (i := 1153) (by decide +kernel), List.mem_of_getElem? (i := 1361) (by decide +kernel), List.mem_of_getElem? (i := 1362) (by decide +kernel)⟩
theorem lw_p67 : lw_okq (⟨"PreparedPlansModel", "factor", "(Z)V"⟩, 20) := ⟨⟨by decide +kernel, by decide +kernel⟩, List.mem_of_getElem? (i := 1153) (by decide +kernel), List.mem_of_getElem? (i := 1365) (by decide +kernel), List.mem_of_getElem? (i := 1366) (by decide +kernel)⟩
theorem lw_p68 : lw_okq (⟨"PreparedPlansModel", "deepens", "()Z"⟩, 20) := ⟨⟨by decide +kernel, by decide +kernel⟩, List.mem_of_getElem? (i := 1153) (by decide +kernel), List.mem_of_getElem? (i := 1369) (by decide +kernel), List.mem_of_getElem? (i := 1370) (by decide +kernel)⟩
theorem lw_p69 : lw_okq (⟨"PreparedPlansModel", "codes", "(II)I"⟩, 20) := ⟨⟨by decide +kernel, by decide +kernel⟩, List.mem_of_getElem? (i := 1153) (by decide +kernel), List.mem_of_getElem? (i := 1373) (by decide +kernel), List.mem_of_getElem? (i := 1374) (by decide +kernel)⟩
theorem lw_p70 : lw_okq (⟨"PreparedPlansModel", "comparison", "(Z)V"⟩, 20) := ⟨⟨by decide +kernel, by decide +kernel⟩, List.mem_of_getElem? (i := 1153) (by decide +kernel), List.mem_of_getElem? (i := 1380) (by decide +kernel), List.mem_of_getElem? (i := 1381) (by decide +kernel)⟩
theorem lw_p71 : lw_okq (⟨"PreparedPlansModel", "holeHere", "(I)I"⟩, 20) := ⟨⟨by decide +kernel, by decide +kernel⟩, List.mem_of_getElem? (i := 1153) (by decide +kernel), List.mem_of_getElem? (i := 1384) (by decide +kernel), List.mem_of_getElem? (i := 1385) (by decide +kernel)⟩
theorem lw_p72 : lw_okq (⟨"PreparedPlansModel", "columnHere", "(I)I"⟩, 20) := ⟨⟨by decide +kernel, by decide +kernel⟩, List.mem_of_getElem? (i := 1153) (by decide +kernel), List.mem_of_getElem? (i := 1388) (by decide +kernel), List.mem_of_getElem? (i := 1389) (by decide +kernel)⟩
theorem lw_p73 : lw_okq (⟨"PreparedPlansModel", "costLine", "()V"⟩, 20) := ⟨⟨by decide +kernel, by decide +kernel⟩, List.mem_of_getElem? (i := 1153) (by decide +kernel), List.mem_of_getElem? (i := 1393) (by decide +kernel), List.mem_of_getElem? (i := 1394) (by decide +kernel)⟩
theorem lw_p74 : lw_okq (⟨"PreparedPlansModel", "triesLine", "()V"⟩, 20) := ⟨⟨by decide +kernel, by decide +kernel⟩, List.mem_of_getElem? (i := 1153) (by decide +kernel), List.mem_of_getElem? (i := 1398) (by decide +kernel), List.mem_of_getElem? (i := 1399) (by decide +kernel)⟩
theorem lw_p75 : lw_okq (⟨"PreparedPlansModel", "change", "()V"⟩, 20) := ⟨⟨by decide +kernel, by decide +kernel⟩, List.mem_of_getElem? (i := 1153) (by decide +kernel), List.mem_of_getElem? (i := 1402) (by decide +kernel), List.mem_of_getElem? (i := 1403) (by decide +kernel)⟩
theorem lw_p76 : lw_okq (⟨"PreparedPlansModel", "looks", "()V"⟩, 20) := ⟨⟨by decide +kernel, by decide +kernel⟩, List.mem_of_getElem? (i := 1153) (by decide +kernel), List.mem_of_getElem? (i := 1406) (by decide +kernel), List.mem_of_getElem? (i := 1407) (by decide +kernel)⟩
theorem lw_p77 : lw_okq (⟨"PreparedPlansModel", "get", "(I)I"⟩, 20) := ⟨⟨by decide +kernel, by decide +kernel⟩, List.mem_of_getElem? (i := 1153) (by decide +kernel), List.mem_of_getElem? (i := 1410) (by decide +kernel), List.mem_of_getElem? (i := 1411) (by decide +kernel)⟩
theorem lw_p78 : lw_okq (⟨"PreparedPlansModel", "unlike", "(I)I"⟩, 20) := ⟨⟨by decide +kernel, by decide +kernel⟩, List.mem_of_getElem? (i := 1153) (by decide +kernel), List.mem_of_getElem? (i := 1414) (by decide +kernel), List.mem_of_getElem? (i := 1415) (by decide +kernel)⟩
theorem lw_p79 : lw_okq (⟨"PreparedPlansModel", "extreme", "(IZ)I"⟩, 20) := ⟨⟨by decide +kernel, by decide +kernel⟩, List.mem_of_getElem? (i := 1153) (by decide +kernel), List.mem_of_getElem? (i := 1418) (by decide +kernel), List.mem_of_getElem? (i := 1419) (by decide +kernel)⟩
def lw_privs_5 : List (MethodName × Nat) := [(⟨"PreparedPlansModel", "prepareLine", "(I)V"⟩, 20), (⟨"PreparedPlansModel", "condition", "(Z)V"⟩, 20), (⟨"PreparedPlansModel", "term", "(Z)V"⟩, 20), (⟨"PreparedPlansModel", "factor", "(Z)V"⟩, 20), (⟨"PreparedPlansModel", "deepens", "()Z"⟩, 20), (⟨"PreparedPlansModel", "codes", "(II)I"⟩, 20), (⟨"PreparedPlansModel", "comparison", "(Z)V"⟩, 20), (⟨"PreparedPlansModel", "holeHere", "(I)I"⟩, 20), (⟨"PreparedPlansModel", "columnHere", "(I)I"⟩, 20), (⟨"PreparedPlansModel", "costLine", "()V"⟩, 20), (⟨"PreparedPlansModel", "triesLine", "()V"⟩, 20), (⟨"PreparedPlansModel", "change", "()V"⟩, 20), (⟨"PreparedPlansModel", "looks", "()V"⟩, 20), (⟨"PreparedPlansModel", "get", "(I)I"⟩, 20), (⟨"PreparedPlansModel", "unlike", "(I)I"⟩, 20), (⟨"PreparedPlansModel", "extreme", "(IZ)I"⟩, 20)]
theorem lw_r5 : ∀ q ∈ lw_privs_5, lw_okq q := List.forall_mem_cons.mpr ⟨lw_p64, List.forall_mem_cons.mpr ⟨lw_p65, List.forall_mem_cons.mpr ⟨lw_p66, List.forall_mem_cons.mpr ⟨lw_p67, List.forall_mem_cons.mpr ⟨lw_p68, List.forall_mem_cons.mpr ⟨lw_p69, List.forall_mem_cons.mpr ⟨lw_p70, List.forall_mem_cons.mpr ⟨lw_p71, List.forall_mem_cons.mpr ⟨lw_p72, List.forall_mem_cons.mpr ⟨lw_p73, List.forall_mem_cons.mpr ⟨lw_p74, List.forall_mem_cons.mpr ⟨lw_p75, List.forall_mem_cons.mpr ⟨lw_p76, List.forall_mem_cons.mpr ⟨lw_p77, List.forall_mem_cons.mpr ⟨lw_p78, List.forall_mem_cons.mpr ⟨lw_p79, fun _ h => absurd h List.not_mem_nil⟩⟩⟩⟩⟩⟩⟩⟩⟩⟩⟩⟩⟩⟩⟩⟩
theorem lw_p80 : lw_okq (⟨"PreparedPlansModel", "noColumn", "(I)Z"⟩, 20) := ⟨⟨by decide +kernel, by decide +kernel⟩, List.mem_of_getElem? (i := 1153) (by decide +kernel), List.mem_of_getElem? (i := 1436) (by decide +kernel), List.mem_of_getElem? (i := 1437) (by decide +kernel)⟩
theorem lw_p81 : lw_okq (⟨"PreparedPlansModel", "ofColumn", "(II)I"⟩, 20) := ⟨⟨by decide +kernel, by decide +kernel⟩, List.mem_of_getElem? (i := 1153) (by decide +kernel), List.mem_of_getElem? (i := 1441) (by decide +kernel), List.mem_of_getElem? (i := 1442) (by decide +kernel)⟩
theorem lw_p82 : lw_okq (⟨"PreparedPlansModel", "nameOf", "(I)I"⟩, 20) := ⟨⟨by decide +kernel, by decide +kernel⟩, List.mem_of_getElem? (i := 1153) (by decide +kernel), List.mem_of_getElem? (i := 1453) (by decide +kernel), List.mem_of_getElem? (i := 1454) (by decide +kernel)⟩
theorem lw_p83 : lw_okq (⟨"PreparedPlansModel", "ofStatement", "(II)I"⟩, 20) := ⟨⟨by decide +kernel, by decide +kernel⟩, List.mem_of_getElem? (i := 1153) (by decide +kernel), List.mem_of_getElem? (i := 1457) (by decide +kernel), List.mem_of_getElem? (i := 1458) (by decide +kernel)⟩
theorem lw_p84 : lw_okq (⟨"PreparedPlansModel", "noStatement", "(I)Z"⟩, 20) := ⟨⟨by decide +kernel, by decide +kernel⟩, List.mem_of_getElem? (i := 1153) (by decide +kernel), List.mem_of_getElem? (i := 1465) (by decide +kernel), List.mem_of_getElem? (i := 1466) (by decide +kernel)⟩
theorem lw_p85 : lw_okq (⟨"PreparedPlansModel", "toldOf", "(II)I"⟩, 20) := ⟨⟨by decide +kernel, by decide +kernel⟩, List.mem_of_getElem? (i := 1153) (by decide +kernel), List.mem_of_getElem? (i := 1475) (by decide +kernel), List.mem_of_getElem? (i := 1476) (by decide +kernel)⟩
theorem lw_p86 : lw_okq (⟨"PreparedPlansModel", "stateOf", "(I)I"⟩, 20) := ⟨⟨by decide +kernel, by decide +kernel⟩, List.mem_of_getElem? (i := 1153) (by decide +kernel), List.mem_of_getElem? (i := 1479) (by decide +kernel), List.mem_of_getElem? (i := 1480) (by decide +kernel)⟩
theorem lw_p87 : lw_okq (⟨"PreparedPlansModel", "isPlan", "(I)Z"⟩, 20) := ⟨⟨by decide +kernel, by decide +kernel⟩, List.mem_of_getElem? (i := 1153) (by decide +kernel), List.mem_of_getElem? (i := 1495) (by decide +kernel), List.mem_of_getElem? (i := 1496) (by decide +kernel)⟩
theorem lw_p88 : lw_okq (⟨"PreparedPlansModel", "costOf", "(IIZ)I"⟩, 20) := ⟨⟨by decide +kernel, by decide +kernel⟩, List.mem_of_getElem? (i := 1153) (by decide +kernel), List.mem_of_getElem? (i := 1500) (by decide +kernel), List.mem_of_getElem? (i := 1501) (by decide +kernel)⟩
theorem lw_p89 : lw_okq (⟨"PreparedPlansModel", "chosen", "(IIZ)I"⟩, 20) := ⟨⟨by decide +kernel, by decide +kernel⟩, List.mem_of_getElem? (i := 1153) (by decide +kernel), List.mem_of_getElem? (i := 1504) (by decide +kernel), List.mem_of_getElem? (i := 1505) (by decide +kernel)⟩
theorem lw_p90 : lw_okq (⟨"PreparedPlansModel", "ofCode", "(II)I"⟩, 20) := ⟨⟨by decide +kernel, by decide +kernel⟩, List.mem_of_getElem? (i := 1153) (by decide +kernel), List.mem_of_getElem? (i := 1508) (by decide +kernel), List.mem_of_getElem? (i := 1509) (by decide +kernel)⟩
theorem lw_p91 : lw_okq (⟨"PreparedPlansModel", "estimate", "(IZ)I"⟩, 20) := ⟨⟨by decide +kernel, by decide +kernel⟩, List.mem_of_getElem? (i := 1153) (by decide +kernel), List.mem_of_getElem? (i := 1512) (by decide +kernel), List.mem_of_getElem? (i := 1513) (by decide +kernel)⟩
theorem lw_p92 : lw_okq (⟨"PreparedPlansModel", "seenEstimate", "(II)I"⟩, 20) := ⟨⟨by decide +kernel, by decide +kernel⟩, List.mem_of_getElem? (i := 1153) (by decide +kernel), List.mem_of_getElem? (i := 1516) (by decide +kernel), List.mem_of_getElem? (i := 1517) (by decide +kernel)⟩
theorem lw_p93 : lw_okq (⟨"PreparedPlansModel", "takesValues", "(IIIII)Z"⟩, 20) := ⟨⟨by decide +kernel, by decide +kernel⟩, List.mem_of_getElem? (i := 1153) (by decide +kernel), List.mem_of_getElem? (i := 1527) (by decide +kernel), List.mem_of_getElem? (i := 1528) (by decide +kernel)⟩
theorem lw_p94 : lw_okq (⟨"PreparedPlansModel", "isValue", "(III)Z"⟩, 20) := ⟨⟨by decide +kernel, by decide +kernel⟩, List.mem_of_getElem? (i := 1153) (by decide +kernel), List.mem_of_getElem? (i := 1531) (by decide +kernel), List.mem_of_getElem? (i := 1532) (by decide +kernel)⟩
theorem lw_p95 : lw_okq (⟨"PreparedPlansModel", "bestPlan", "(IZ)I"⟩, 20) := ⟨⟨by decide +kernel, by decide +kernel⟩, List.mem_of_getElem? (i := 1153) (by decide +kernel), List.mem_of_getElem? (i := 1535) (by decide +kernel), List.mem_of_getElem? (i := 1536) (by decide +kernel)⟩
def lw_privs_6 : List (MethodName × Nat) := [(⟨"PreparedPlansModel", "noColumn", "(I)Z"⟩, 20), (⟨"PreparedPlansModel", "ofColumn", "(II)I"⟩, 20), (⟨"PreparedPlansModel", "nameOf", "(I)I"⟩, 20), (⟨"PreparedPlansModel", "ofStatement", "(II)I"⟩, 20), (⟨"PreparedPlansModel", "noStatement", "(I)Z"⟩, 20), (⟨"PreparedPlansModel", "toldOf", "(II)I"⟩, 20), (⟨"PreparedPlansModel", "stateOf", "(I)I"⟩, 20), (⟨"PreparedPlansModel", "isPlan", "(I)Z"⟩, 20), (⟨"PreparedPlansModel", "costOf", "(IIZ)I"⟩, 20), (⟨"PreparedPlansModel", "chosen", "(IIZ)I"⟩, 20), (⟨"PreparedPlansModel", "ofCode", "(II)I"⟩, 20), (⟨"PreparedPlansModel", "estimate", "(IZ)I"⟩, 20), (⟨"PreparedPlansModel", "seenEstimate", "(II)I"⟩, 20), (⟨"PreparedPlansModel", "takesValues", "(IIIII)Z"⟩, 20), (⟨"PreparedPlansModel", "isValue", "(III)Z"⟩, 20), (⟨"PreparedPlansModel", "bestPlan", "(IZ)I"⟩, 20)]
theorem lw_r6 : ∀ q ∈ lw_privs_6, lw_okq q := List.forall_mem_cons.mpr ⟨lw_p80, List.forall_mem_cons.mpr ⟨lw_p81, List.forall_mem_cons.mpr ⟨lw_p82, List.forall_mem_cons.mpr ⟨lw_p83, List.forall_mem_cons.mpr ⟨lw_p84, List.forall_mem_cons.mpr ⟨lw_p85, List.forall_mem_cons.mpr ⟨lw_p86, List.forall_mem_cons.mpr ⟨lw_p87, List.forall_mem_cons.mpr ⟨lw_p88, List.forall_mem_cons.mpr ⟨lw_p89, List.forall_mem_cons.mpr ⟨lw_p90, List.forall_mem_cons.mpr ⟨lw_p91, List.forall_mem_cons.mpr ⟨lw_p92, List.forall_mem_cons.mpr ⟨lw_p93, List.forall_mem_cons.mpr ⟨lw_p94, List.forall_mem_cons.mpr ⟨lw_p95, fun _ h => absurd h List.not_mem_nil⟩⟩⟩⟩⟩⟩⟩⟩⟩⟩⟩⟩⟩⟩⟩⟩
theorem lw_p96 : lw_okq (⟨"PreparedPlansModel", "isFresh", "(I)Z"⟩, 20) := ⟨⟨by decide +kernel, by decide +kernel⟩, List.mem_of_getElem? (i := 1153) (by decide +kernel), List.mem_of_getElem? (i := 1547) (by decide +kernel), List.mem_of_getElem? (i := 1548) (by decide +kernel)⟩
theorem lw_p97 : lw_okq (⟨"PreparedPlansModel", "isGeneric", "(II)Z"⟩, 20) := ⟨⟨by decide +kernel, by decide +kernel⟩, List.mem_of_getElem? (i := 1153) (by decide +kernel), List.mem_of_getElem? (i := 1551) (by decide +kernel), List.mem_of_getElem? (i := 1552) (by decide +kernel)⟩
theorem lw_p98 : lw_okq (⟨"PreparedPlansModel", "finds", "(II)Z"⟩, 20) := ⟨⟨by decide +kernel, by decide +kernel⟩, List.mem_of_getElem? (i := 1153) (by decide +kernel), List.mem_of_getElem? (i := 1559) (by decide +kernel), List.mem_of_getElem? (i := 1560) (by decide +kernel)⟩
theorem lw_p99 : lw_okq (⟨"PreparedPlansModel", "isTrue", "(II)Z"⟩, 20) := ⟨⟨by decide +kernel, by decide +kernel⟩, List.mem_of_getElem? (i := 1153) (by decide +kernel), List.mem_of_getElem? (i := 1563) (by decide +kernel), List.mem_of_getElem? (i := 1564) (by decide +kernel)⟩
theorem lw_p100 : lw_okq (⟨"PreparedPlansModel", "makesGeneric", "(I)V"⟩, 20) := ⟨⟨by decide +kernel, by decide +kernel⟩, List.mem_of_getElem? (i := 1153) (by decide +kernel), List.mem_of_getElem? (i := 1571) (by decide +kernel), List.mem_of_getElem? (i := 1572) (by decide +kernel)⟩
theorem lw_p101 : lw_okq (⟨"PreparedPlansModel", "add", "(II)V"⟩, 20) := ⟨⟨by decide +kernel, by decide +kernel⟩, List.mem_of_getElem? (i := 1153) (by decide +kernel), List.mem_of_getElem? (i := 1575) (by decide +kernel), List.mem_of_getElem? (i := 1576) (by decide +kernel)⟩
theorem lw_p102 : lw_okq (⟨"PreparedPlansModel", "touches", "(IIZ)V"⟩, 20) := ⟨⟨by decide +kernel, by decide +kernel⟩, List.mem_of_getElem? (i := 1153) (by decide +kernel), List.mem_of_getElem? (i := 1579) (by decide +kernel), List.mem_of_getElem? (i := 1580) (by decide +kernel)⟩
theorem lw_p103 : lw_okq (⟨"PreparedPlansModel", "learns", "(IIIZI)V"⟩, 20) := ⟨⟨by decide +kernel, by decide +kernel⟩, List.mem_of_getElem? (i := 1153) (by decide +kernel), List.mem_of_getElem? (i := 1583) (by decide +kernel), List.mem_of_getElem? (i := 1584) (by decide +kernel)⟩
theorem lw_p104 : lw_okq (⟨"PreparedPlansModel", "isCell", "(II)Z"⟩, 20) := ⟨⟨by decide +kernel, by decide +kernel⟩, List.mem_of_getElem? (i := 1153) (by decide +kernel), List.mem_of_getElem? (i := 1591) (by decide +kernel), List.mem_of_getElem? (i := 1592) (by decide +kernel)⟩
theorem lw_p105 : lw_okq (⟨"PreparedPlansModel", "adds", "(J)V"⟩, 20) := ⟨⟨by decide +kernel, by decide +kernel⟩, List.mem_of_getElem? (i := 1153) (by decide +kernel), List.mem_of_getElem? (i := 1615) (by decide +kernel), List.mem_of_getElem? (i := 1616) (by decide +kernel)⟩
theorem lw_p106 : lw_okq (⟨"PreparedPlansModel", "addsStatement", "(I)V"⟩, 20) := ⟨⟨by decide +kernel, by decide +kernel⟩, List.mem_of_getElem? (i := 1153) (by decide +kernel), List.mem_of_getElem? (i := 1620) (by decide +kernel), List.mem_of_getElem? (i := 1621) (by decide +kernel)⟩
def lw_privs_7 : List (MethodName × Nat) := [(⟨"PreparedPlansModel", "isFresh", "(I)Z"⟩, 20), (⟨"PreparedPlansModel", "isGeneric", "(II)Z"⟩, 20), (⟨"PreparedPlansModel", "finds", "(II)Z"⟩, 20), (⟨"PreparedPlansModel", "isTrue", "(II)Z"⟩, 20), (⟨"PreparedPlansModel", "makesGeneric", "(I)V"⟩, 20), (⟨"PreparedPlansModel", "add", "(II)V"⟩, 20), (⟨"PreparedPlansModel", "touches", "(IIZ)V"⟩, 20), (⟨"PreparedPlansModel", "learns", "(IIIZI)V"⟩, 20), (⟨"PreparedPlansModel", "isCell", "(II)Z"⟩, 20), (⟨"PreparedPlansModel", "adds", "(J)V"⟩, 20), (⟨"PreparedPlansModel", "addsStatement", "(I)V"⟩, 20)]
theorem lw_r7 : ∀ q ∈ lw_privs_7, lw_okq q := List.forall_mem_cons.mpr ⟨lw_p96, List.forall_mem_cons.mpr ⟨lw_p97, List.forall_mem_cons.mpr ⟨lw_p98, List.forall_mem_cons.mpr ⟨lw_p99, List.forall_mem_cons.mpr ⟨lw_p100, List.forall_mem_cons.mpr ⟨lw_p101, List.forall_mem_cons.mpr ⟨lw_p102, List.forall_mem_cons.mpr ⟨lw_p103, List.forall_mem_cons.mpr ⟨lw_p104, List.forall_mem_cons.mpr ⟨lw_p105, List.forall_mem_cons.mpr ⟨lw_p106, fun _ h => absurd h List.not_mem_nil⟩⟩⟩⟩⟩⟩⟩⟩⟩⟩⟩
def lw_privs : List (MethodName × Nat) := lw_privs_1 ++ (lw_privs_2 ++ (lw_privs_3 ++ (lw_privs_4 ++ (lw_privs_5 ++ (lw_privs_6 ++ (lw_privs_7))))))
def lw_tbl : List Cond := k2_sels lw_privs ++ tables_1
theorem lw_privs_ok : ∀ q ∈ lw_privs, lw_okq q := by
  show ∀ q ∈ lw_privs_1 ++ (lw_privs_2 ++ (lw_privs_3 ++ (lw_privs_4 ++ (lw_privs_5 ++ (lw_privs_6 ++ (lw_privs_7)))))), lw_okq q
  exact List.forall_mem_append.mpr ⟨lw_r1, List.forall_mem_append.mpr ⟨lw_r2, List.forall_mem_append.mpr ⟨lw_r3, List.forall_mem_append.mpr ⟨lw_r4, List.forall_mem_append.mpr ⟨lw_r5, List.forall_mem_append.mpr ⟨lw_r6, lw_r7⟩⟩⟩⟩⟩⟩
-- ===== end of PART A; then your names; then what follows =====
end
section
/-! ===== BEGIN words of one list among another's, by their places ===== -/
theorem goodIn_r {big : List Cond} (ws : List Cond) (ps : List Nat) (hp : ws = ps.filterMap (fun i => big[i]?)) (h : ws.all goodWord = true) : GoodIn big ws := by
  intro w hw
  have h1 := List.all_eq_true.mp h w hw
  rw [hp] at hw
  obtain ⟨i, -, hi⟩ := List.mem_filterMap.mp hw
  have hm : w ∈ big := by first | exact List.mem_of_getElem? hi | exact List.getElem?_mem hi
  exact ⟨hm, good_of_word h1⟩
theorem goodIn_app {big a b : List Cond} (ha : GoodIn big a) (hb : GoodIn big b) : GoodIn big (a ++ b) := fun w h => (List.mem_append.mp h).elim (ha w) (hb w)
theorem goodIn_ca {big a b : List Cond} {c : Cond} (ha : GoodIn big (c :: a)) (hb : GoodIn big b) : GoodIn big (c :: (a ++ b)) := fun w h => (List.mem_cons.mp h).elim (fun e => ha w (List.mem_cons.mpr (Or.inl e))) (fun h => (List.mem_append.mp h).elim (fun h => ha w (List.mem_cons.mpr (Or.inr h))) (hb w))
theorem goodIn_sub {big ws : List Cond} (hm : ∀ w ∈ ws, w ∈ big) (h : ws.all goodWord = true) : GoodIn big ws := fun w hw => ⟨hm w hw, good_of_word (List.all_eq_true.mp h w hw)⟩
/-! ===== END ===== -/
/-! ===== BEGIN exceptions that leave a method, and their catching by the caller (launches without stack traces) ===== -/
section VXA
/-! The laws vx_back, vx_callV, vx_callS, vx_callSW, vx_throw0, vx_throwS follow proofs of the library, with one case more: JvmDerived/Free/Laws.lean (Back.of_free), Shelf42/LK1.lean (callV, callS), Shelf/KitTraced.lean (throwNew0V, throwNewS). -/
/-- where a method has thrown q: the class by its name, the cell, what was written, the world -/
def vx_T (XC : String → State → State → Prop) (st : State) (q : Addr) (t : State) (mc ms : Nat) (free : Addr → Prop) : Prop :=
  ∃ (E : String) (ce : Cell) (L : List Loc), XC E st t ∧ t.heap[q]? = some ce ∧ ce.vm = .none ∧ st.vm.findClass E = some ce.cls ∧ st.WarmedH t.vm ∧ st.sameButNew ({ t with vm := st.vm } : State) L mc ms ∧ ∀ z ∈ L, free z.base
def vx_Q (Qc : Array Value → State → Outcome → State → Prop) (XC : String → State → State → Prop) (mc ms : Nat) (free : Addr → Prop) : Array Value → State → Outcome → State → Prop := fun a st o t =>
  (Qc a st o t ∧ ∃ L, FrameEnd st o t L mc ms ∧ ∀ q ∈ L, free q.base) ∨ ∃ q, o = .threw q ∧ vx_T XC st q t mc ms free
/-- a callee that returns or throws -/
def vx_Met (l : Launch) (y : MethodName) (ws : List Cond) (rm : Room) (Pc : Array Value → State → Prop) (Qc : Array Value → State → Outcome → State → Prop) (XC : String → State → State → Prop) (mc ms : Nat) (free : Addr → Prop) : Prop :=
  MetFree l y (headSpec ws rm) Pc (fun _ _ _ _ _ => True) (vx_Q Qc XC mc ms free)
def vx_Post (XC : String → State → State → Prop) (mc ms : Nat) (free : Addr → Prop) : Pt → Array Value → Addr → Pt → Prop := fun A a q B =>
  ∃ (g : JFrame) (mk : MethodId) (t : State) (L : List Loc) (E : String) (ce : Cell), B.U.heap = t.heap ∧ B.U.vm = t.vm ∧ XC E (A.U.calling g mk a) t ∧ t.heap[q]? = some ce ∧ ce.vm = .none ∧ A.U.vm.findClass E = some ce.cls ∧ B.locs = A.locs ++ L ∧ (∀ z ∈ L, free z.base) ∧ B.cells = A.cells + mc ∧ B.slots = A.slots + ms
def vx_Back (l : Launch) (R : Room) (p : Program) (e : Env) (below : List Frame) (s : State) (sargs : Array Value) (y : MethodName) (len W9 : Nat)
    (Pre : Pt → Array Value → Prop) (Post : Pt → Array Value → Option Value → Pt → Prop) (PostX : Pt → Array Value → Addr → Pt → Prop) : Prop :=
  ∀ (m : MethodId) (meth : Method) (c : Code) (A : Pt) (g : JFrame) (ig : Instr) (mk : MethodId) (a : Array Value),
    Stand p l e R s m sargs below meth c A.U A.locs A.cells A.slots → g.method = m → g.locals.size = c.maxLocals → decode c.code g.pc = .ok (ig, len) →
    2 * g.monitorRoom + (g.stack.map fun v => v.category).sum ≤ W9 → A.U.methodNamed? y = some mk → Pre A a →
    (∃ (v : Option Value) (B : Pt), Stand p l e R s m sargs below meth c B.U B.locs B.cells B.slots ∧ Post A a v B ∧
      Steps p.tables e below (doInvoke e (A.U.setTop g) [] mk a).1 (B.U.setTop { g with pc := g.pc + len, stack := v.toList ++ g.stack })) ∨
    (∃ (q : Addr) (B : Pt), Stand p l e R s m sargs below meth c B.U B.locs B.cells B.slots ∧ PostX A a q B ∧
      Steps p.tables e below (doInvoke e (A.U.setTop g) [] mk a).1 ((B.U.setTop g).pushFrame (.throwing q)))
section Payer
variable {l : Launch} {R : Room} {p : Program} {e : Env} {below : List Frame} {s : State} {sargs : Array Value} {y : MethodName} {len W9 : Nat}
theorem vx_back {ws : List Cond} {rm : Room} {Pc : Array Value → State → Prop} {Qc : Array Value → State → Outcome → State → Prop} {XC : String → State → State → Prop} {mc ms : Nat} {free : Addr → Prop} {bytes : ByteArray} {maxL : Nat} {ret : Option FieldType}
    (hM : vx_Met l y ws rm Pc Qc XC mc ms free) (hblind : FrameBlind Pc) (hrc : rm.cells = mc) (hrs : rm.slots = ms)
    (hframes : rm.frames + 1 ≤ R.frames) (hlocals : W9 + (maxL + 11) + rm.locals ≤ R.locals)
    (hws : ∀ w ∈ ws, ∀ a' U, s.WarmedH U.vm → w.before a' U = true) (hcode : Cond.code y bytes maxL ret ∈ ws) (hinit : ∀ a' U, s.WarmedH U.vm → (Cond.initialized y.cls).before a' U = true) :
    vx_Back l R p e below s sargs y len W9 (PreOf R mc ms Pc) (PostOf Qc mc ms free) (vx_Post XC mc ms free) := by
  intro m meth c A g ig mk a X hg hsize hdg hW hn hp
  have h1 : (headSpec ws rm).pre.before a A.U = true := atoms_intro fun w hw => hws w hw _ _ X.warmed
  have h2 : (Cond.code y bytes maxL ret).before a A.U = true := hws _ hcode _ _ X.warmed
  have h3 : (Cond.initialized y.cls).before a A.U = true := hinit _ _ X.warmed
  have h4 : A.cells + (headSpec ws rm).room.cells ≤ R.cells := by rw [show (headSpec ws rm).room.cells = mc from hrc]; exact hp.1
  have h5 : A.slots + (headSpec ws rm).room.slots ≤ R.slots := by rw [show (headSpec ws rm).room.slots = ms from hrs]; exact hp.2.1
  have hPc : Pc a (A.U.calling g mk a) := hblind _ _ _ _ hp.2.2
  obtain ⟨U, Ls, c0, s0⟩ := A
  dsimp only [Pt.U, Pt.locs, Pt.cells, Pt.slots] at h1 h2 h3 h4 h5 X hn hPc ⊢
  obtain ⟨methY, cY, hmY, hcY, -, hlY, -, -, -, -⟩ := Cond.code_spec hn h2
  obtain ⟨kY, hkY, -⟩ := className_of_methodNamed hn
  have hinitY : kY.init = .initialized := Cond.initialized_spec (findClass_of_methodNamed hn) hkY h3
  have h : At U g.method c below := by rw [hg]; exact X.here
  have hlocals9 : W9 + (maxL + 11) + (headSpec ws rm).room.locals ≤ R.locals := hlocals
  have happ : (headSpec ws rm).appliesLoose y e.platform (U.calling g mk a) = true :=
    Spec.appliesLoose_calling (g := g) h hdg hn hkY hinitY
      (X.room_calling (g := g) (R' := (headSpec ws rm).room) hsize hmY hcY hframes (by rw [hlY]; omega) h4 h5) h1
  obtain ⟨mid, hmid⟩ := h.above
  have hfr : (U.setTop g).frames = (.java g :: mid) ++ below := by rw [State.frames_setTop' g h.top, hmid]; rfl
  obtain ⟨o, s₂, hsteps, -, hend, hq⟩ := Steps.callFree hM p X.admits X.cas X.clock (acts := []) hfr happ hPc trivial
  have hq' : vx_Q Qc XC mc ms free a (U.calling g mk a) o s₂ := hq
  rw [State.frames_setTop' g h.top] at hend
  obtain ⟨g₀, hg0⟩ := Option.isSome_iff_exists.mp h.top
  obtain ⟨r, hr⟩ := State.topJava?_eq_some.mp hg0
  have hr' : (({ U with heap := s₂.heap, slotsUsed := s₂.slotsUsed } : State).setVm s₂.vm).frames = .java g₀ :: r := hr
  rcases hq' with ⟨hqc, L, hfe, hL⟩ | ⟨q, rfl, E, ce, L, hx, hce, hcv, hcl, hW₂, hsm, hL⟩
  · obtain ⟨⟨v, rfl⟩, hW₂, e2, q2, q3, q4, q5, q6⟩ := id hfe
    have e3 : s₂ = ({ (U.calling g mk a).setFrames s₂.frames with heap := s₂.heap, slotsUsed := s₂.slotsUsed } : State).setVm s₂.vm := by
      have : s₂ = ({ s₂ with vm := (U.calling g mk a).vm } : State).setVm s₂.vm := rfl
      rw [e2] at this
      exact this
    obtain ⟨c₂, i₂, len₂, hc₂, hd₂, hf₂⟩ := hend
    have hW' : U.WarmedH s₂.vm := hW₂
    have hcc : c₂ = c := by
      have h1 : s₂.code? g.method = U.code? g.method := by
        rw [State.code?_eq, State.code?_eq, hW'.alike.method?]
      exact Option.some.inj (hc₂.symm.trans (h1.trans h.code))
    subst hcc
    have hlen : len₂ = len := by rw [hdg] at hd₂; cases hd₂; rfl
    subst hlen
    have hs₂ : s₂ = (({ U with heap := s₂.heap, slotsUsed := s₂.slotsUsed } : State).setVm s₂.vm).setTop { g with pc := g.pc + len₂, stack := v.toList ++ g.stack } := by
      refine e3.trans ?_
      rw [hf₂, State.calling_eq h.top, State.setFrames_setFrames, State.setTop_of_frames _ hr', hr]
      rfl
    have hsame : U.sameButNew ({ U with heap := s₂.heap, slotsUsed := s₂.slotsUsed } : State) L mc ms := by
      refine ⟨?_, q2, q3, q4, q5, q6⟩
      obtain ⟨t, ht, -⟩ := State.frames_cons hr
      show ({ U with heap := s₂.heap, slotsUsed := s₂.slotsUsed } : State) = { U.setFrames U.frames with heap := s₂.heap, slotsUsed := s₂.slotsUsed }
      rw [State.setFrames_self ht]
    subst hg
    refine Or.inl ⟨v, ⟨(({ U with heap := s₂.heap, slotsUsed := s₂.slotsUsed } : State).setVm s₂.vm), Ls ++ L, c0 + mc, s0 + ms⟩,
      ⟨X.admits, X.cas, X.clock, X.frames, X.room, X.hears, X.method, X.code, (X.here.setHeapUsed s₂.heap s₂.slotsUsed).setVm hW'.alike, X.tail, State.WarmedH.trans X.warmed hW', X.limits, X.bytes, X.same.trans (hsame.setVm s.vm)⟩,
      ⟨g, mk, s₂, L, rfl, rfl, hqc, rfl, hL, rfl, rfl⟩, ?_⟩
    show Steps p.tables e below _ ((({ U with heap := s₂.heap, slotsUsed := s₂.slotsUsed } : State).setVm s₂.vm).setTop { g with pc := g.pc + len₂, stack := v.toList ++ g.stack })
    rw [← hs₂]
    exact hsteps
  · obtain ⟨e2, q2, q3, q4, q5, q6⟩ := id hsm
    have e3 : s₂ = ({ (U.calling g mk a).setFrames s₂.frames with heap := s₂.heap, slotsUsed := s₂.slotsUsed } : State).setVm s₂.vm := by
      have : s₂ = ({ s₂ with vm := (U.calling g mk a).vm } : State).setVm s₂.vm := rfl
      rw [e2] at this
      exact this
    have hf₂ : s₂.frames = .throwing q :: .java g :: U.frames.tail := hend
    have hW' : U.WarmedH s₂.vm := hW₂
    have hs₂ : s₂ = ((({ U with heap := s₂.heap, slotsUsed := s₂.slotsUsed } : State).setVm s₂.vm).setTop g).pushFrame (.throwing q) := by
      refine e3.trans ?_
      rw [hf₂, State.calling_eq h.top, State.setFrames_setFrames, State.pushFrame, State.frames_setTop _ hr', State.setTop_of_frames _ hr', State.setFrames_setFrames, hr]
      rfl
    have hsame : U.sameButNew ({ U with heap := s₂.heap, slotsUsed := s₂.slotsUsed } : State) L mc ms := by
      refine ⟨?_, q2, q3, q4, q5, q6⟩
      obtain ⟨t, ht, -⟩ := State.frames_cons hr
      show ({ U with heap := s₂.heap, slotsUsed := s₂.slotsUsed } : State) = { U.setFrames U.frames with heap := s₂.heap, slotsUsed := s₂.slotsUsed }
      rw [State.setFrames_self ht]
    subst hg
    refine Or.inr ⟨q, ⟨(({ U with heap := s₂.heap, slotsUsed := s₂.slotsUsed } : State).setVm s₂.vm), Ls ++ L, c0 + mc, s0 + ms⟩,
      ⟨X.admits, X.cas, X.clock, X.frames, X.room, X.hears, X.method, X.code, (X.here.setHeapUsed s₂.heap s₂.slotsUsed).setVm hW'.alike, X.tail, State.WarmedH.trans X.warmed hW', X.limits, X.bytes, X.same.trans (hsame.setVm s.vm)⟩,
      ⟨g, mk, s₂, L, E, ce, rfl, rfl, hx, hce, hcv, hcl, rfl, hL, rfl, rfl⟩, ?_⟩
    show Steps p.tables e below _ (((({ U with heap := s₂.heap, slotsUsed := s₂.slotsUsed } : State).setVm s₂.vm).setTop g).pushFrame (.throwing q))
    rw [← hs₂]
    exact hsteps
end Payer
section Calls
variable {p : Program} {l : Launch} {e : Env} {R : Room} {s : State} {m : MethodId} {args : Array Value} {below : List Frame} {meth : Method} {c : Code} {T : State} {locs : List Loc} {cells slots : Nat}
theorem vx_callV (X : Stand p l e R s m args below meth c T locs cells slots) (hexec : p.tables.exec = Jvm.exec) {own C : String} {index : Nat} {y : MethodName} {bytes : ByteArray} {maxL : Nat} {ret : Option FieldType}
    (hown : s.vm.findClass own = some m.cls) (hlink : (Cond.methodLink own index y).before args s = true) (hinst : (Cond.instanceMethod y).before args s = true) (hsel : (Cond.selects C y y).before args s = true)
    (hcode : (Cond.code y bytes maxL ret).before args s = true) (hy : y.cls ≠ "java/lang/invoke/MethodHandle" ∧ y.cls ≠ "java/lang/invoke/VarHandle")
    {W9 : Nat} {Pre : Pt → Array Value → Prop} {Post : Pt → Array Value → Option Value → Pt → Prop} {PostX : Pt → Array Value → Addr → Pt → Prop} (hK : vx_Back l R p e below s args y 3 W9 Pre Post PostX)
    {b : Addr} {cellB : Cell} (hcell : T.heap[b]? = some cellB) (hobj : cellB.vm.isStatics = false) (hcls : s.vm.findClass C = some cellB.cls)
    {g : JFrame} (hg : g.method = m) (hsize : g.locals.size = c.maxLocals) {argsL rest : List Value} (hlen : ∀ sig, parseMethodDescriptor y.desc = some sig → argsL.length = sig.parameters.length)
    (hstack : g.stack = argsL.reverse ++ .ref b :: rest) (hW : 2 * g.monitorRoom + (rest.map fun v => v.category).sum ≤ W9) (hdg : decode c.code g.pc = .ok (.invokevirtual index, 3))
    (hpre : ∀ vm₁, s.WarmedH vm₁ → Pre ⟨T.setVm vm₁, locs, cells, slots⟩ (Value.ref b :: argsL).toArray) :
    (∃ (v : Option Value) (vm₁ : Vm) (B : Pt), s.WarmedH vm₁ ∧ Stand p l e R s m args below meth c B.U B.locs B.cells B.slots ∧ Post ⟨T.setVm vm₁, locs, cells, slots⟩ (Value.ref b :: argsL).toArray v B ∧
      ∀ target, Steps p.tables e below (B.U.setTop { g with pc := g.pc + 3, stack := v.toList ++ rest }) target → Steps p.tables e below (T.setTop g) target) ∨
    (∃ (q : Addr) (vm₁ : Vm) (B : Pt), s.WarmedH vm₁ ∧ Stand p l e R s m args below meth c B.U B.locs B.cells B.slots ∧ PostX ⟨T.setVm vm₁, locs, cells, slots⟩ (Value.ref b :: argsL).toArray q B ∧
      Steps p.tables e below (T.setTop g) ((B.U.setTop { g with stack := rest }).pushFrame (.throwing q))) := by
  obtain ⟨mk, methM, hnamed, hmethM, hstM, habM⟩ := Cond.instanceMethod_spec hinst
  obtain ⟨methM', cM, hmethM', -, -, -, -, -, -, hsigM⟩ := Cond.code_spec hnamed hcode
  cases hmethM.symm.trans hmethM'
  obtain ⟨c2, r2, m2, q1, q2, q3, q4, kP, hkP, hkPi⟩ := Cond.selects_spec hsel
  cases hcls.symm.trans q1
  cases (State.methodFound?_of_named hnamed hy).symm.trans q2
  cases hnamed.symm.trans q3
  have hselP : selectMethod e.platform s.vm cellB.cls mk = .method mk := by rw [Launch.admits_selectMethod X.admits]; exact q4
  obtain ⟨vm₁, X₁, hstep₁⟩ := X.invokevirtual hexec hown hlink hnamed hmethM hstM hkP hkPi hy (a := b) (cell := cellB) hcell
    (fun z h => by rw [h] at hobj; cases hobj) hselP hmethM habM hkP hkPi (g := g) hg (argsL := argsL) (rest := rest) (hlen _ hsigM) hstack hdg
  rcases hK m meth c ⟨T.setVm vm₁, locs, cells, slots⟩ { g with stack := rest } (.invokevirtual index) mk (Value.ref b :: argsL).toArray X₁ hg hsize hdg hW (X₁.named hnamed) (hpre vm₁ X₁.warmed) with ⟨v, B, X', hpost, hsteps⟩ | ⟨q, B, X', hpost, hsteps⟩
  · exact Or.inl ⟨v, vm₁, B, X₁.warmed, X', hpost, fun target h => hstep₁ _ fun acts => by rw [doInvoke_state]; exact hsteps.trans h⟩
  · exact Or.inr ⟨q, vm₁, B, X₁.warmed, X', hpost, hstep₁ _ fun acts => by rw [doInvoke_state]; exact hsteps⟩
theorem vx_callS (X : Stand p l e R s m args below meth c T locs cells slots) (hexec : p.tables.exec = Jvm.exec) {own : String} {index : Nat} {y : MethodName} {bytes : ByteArray} {maxL : Nat} {ret : Option FieldType}
    (hown : s.vm.findClass own = some m.cls) (hlink : (Cond.methodLink own index y).before args s = true) (hstat : (Cond.static y).before args s = true) (hinit : (Cond.initialized y.cls).before args s = true)
    (hcode : (Cond.code y bytes maxL ret).before args s = true) (hy : y.cls ≠ "java/lang/invoke/MethodHandle" ∧ y.cls ≠ "java/lang/invoke/VarHandle")
    {W9 : Nat} {Pre : Pt → Array Value → Prop} {Post : Pt → Array Value → Option Value → Pt → Prop} {PostX : Pt → Array Value → Addr → Pt → Prop} (hK : vx_Back l R p e below s args y 3 W9 Pre Post PostX)
    {g : JFrame} (hg : g.method = m) (hsize : g.locals.size = c.maxLocals) {argsL rest : List Value} (hlen : ∀ sig, parseMethodDescriptor y.desc = some sig → argsL.length = sig.parameters.length)
    (hstack : g.stack = argsL.reverse ++ rest) (hW : 2 * g.monitorRoom + (rest.map fun v => v.category).sum ≤ W9) (hdg : decode c.code g.pc = .ok (.invokestatic index, 3))
    (hpre : ∀ vm₁, s.WarmedH vm₁ → Pre ⟨T.setVm vm₁, locs, cells, slots⟩ argsL.toArray) :
    (∃ (v : Option Value) (vm₁ : Vm) (B : Pt), s.WarmedH vm₁ ∧ Stand p l e R s m args below meth c B.U B.locs B.cells B.slots ∧ Post ⟨T.setVm vm₁, locs, cells, slots⟩ argsL.toArray v B ∧
      ∀ target, Steps p.tables e below (B.U.setTop { g with pc := g.pc + 3, stack := v.toList ++ rest }) target → Steps p.tables e below (T.setTop g) target) ∨
    (∃ (q : Addr) (vm₁ : Vm) (B : Pt), s.WarmedH vm₁ ∧ Stand p l e R s m args below meth c B.U B.locs B.cells B.slots ∧ PostX ⟨T.setVm vm₁, locs, cells, slots⟩ argsL.toArray q B ∧
      Steps p.tables e below (T.setTop g) ((B.U.setTop { g with stack := rest }).pushFrame (.throwing q))) := by
  obtain ⟨mk, hnamed⟩ := Cond.code_named hcode
  obtain ⟨methM, cM, hmethM, -, -, -, -, -, -, hsigM⟩ := Cond.code_spec hnamed hcode
  have hstatic : methM.isStatic = true := Cond.static_spec hnamed hmethM hstat
  obtain ⟨kP, hkP, -⟩ := className_of_methodNamed hnamed
  have hinitP : kP.init = .initialized := Cond.initialized_spec (findClass_of_methodNamed hnamed) hkP hinit
  obtain ⟨vm₁, X₁, hstep₁⟩ := X.invokestatic hexec hown hlink hnamed hmethM hstatic hkP hinitP hy (g := g) hg (argsL := argsL) (rest := rest) (hlen _ hsigM) hstack hdg
  rcases hK m meth c ⟨T.setVm vm₁, locs, cells, slots⟩ { g with stack := rest } (.invokestatic index) mk argsL.toArray X₁ hg hsize hdg hW (X₁.named hnamed) (hpre vm₁ X₁.warmed) with ⟨v, B, X', hpost, hsteps⟩ | ⟨q, B, X', hpost, hsteps⟩
  · exact Or.inl ⟨v, vm₁, B, X₁.warmed, X', hpost, fun target h => hstep₁ _ fun acts => by rw [doInvoke_state]; exact hsteps.trans h⟩
  · exact Or.inr ⟨q, vm₁, B, X₁.warmed, X', hpost, hstep₁ _ fun acts => by rw [doInvoke_state]; exact hsteps⟩
end Calls
theorem vx_cls {s : State} {T : State} {vm₁ : Vm} {E : String} {k : ClassId} (hW : s.WarmedH vm₁) (h : (T.setVm vm₁).vm.findClass E = some k) : s.vm.findClass E = some k := by
  have h1 : vm₁.findClass E = some k := h
  rw [hW.alike.findClass] at h1
  exact h1
/-- the method's frame g, with q thrown over it -/
def vx_W (p : Program) (l : Launch) (e : Env) (R : Room) (s : State) (m : MethodId) (args : Array Value) (below : List Frame) (meth : Method) (c : Code) (H : Heap) (locs : List Loc) (cells slots : Nat) (Q : State → Prop) (g : JFrame) (q : Addr) : Prop :=
  ∀ T : State, T.heap = H → Stand p l e R s m args below meth c T locs cells slots → ∃ t, Steps p.tables e below ((T.setTop g).pushFrame (.throwing q)) t ∧ Q t
def vx_Run (p : Program) (l : Launch) (e : Env) (R : Room) (s : State) (m : MethodId) (args : Array Value) (below : List Frame) (meth : Method) (c : Code) (H : Heap) (locs : List Loc) (cells slots mc ms : Nat) (g : JFrame) (rest : List Value) (Qa : State → Outcome → State → Prop) (XC : String → State → State → Prop) (free : Addr → Prop) : Prop :=
  ∀ T : State, T.heap = H → Stand p l e R s m args below meth c T locs cells slots →
    (∃ (v : Option Value) (st₀ t T' : State) (L : List Loc), st₀.heap = H ∧ Stand p l e R s m args below meth c T' (locs ++ L) (cells + mc) (slots + ms) ∧ (∀ q ∈ L, free q.base) ∧ T'.heap = t.heap ∧ T'.vm = t.vm ∧ Qa st₀ (.returned v) t ∧
      Goes p e below T g T' { g with pc := g.pc + 3, stack := v.toList ++ rest }) ∨
    (∃ (q : Addr) (st₀ t T' : State) (L : List Loc) (E : String) (ce : Cell), st₀.heap = H ∧ Stand p l e R s m args below meth c T' (locs ++ L) (cells + mc) (slots + ms) ∧ (∀ z ∈ L, free z.base) ∧ T'.heap = t.heap ∧ T'.vm = t.vm ∧ XC E st₀ t ∧ t.heap[q]? = some ce ∧ ce.vm = .none ∧ s.vm.findClass E = some ce.cls ∧
      Steps p.tables e below (T.setTop g) ((T'.setTop { g with stack := rest }).pushFrame (.throwing q)))
def vx_X {S : Type} (px : S → Prop) (B : String → S → State → Prop) (A : Nat → Prop) : String → State → State → Prop := fun E st t => ∃ u : S, px u ∧ B E u t ∧ va_F A st t
section Runs
variable {p : Program} {l : Launch} {e : Env} {R : Room} {s : State} {m : MethodId} {args : Array Value} {below : List Frame} {meth : Method} {c : Code} {H : Heap} {locs : List Loc} {cells slots : Nat}
variable {y : MethodName} {bytes cc : ByteArray} {maxL nL mc ms n index : Nat} {ret : Option FieldType} {ws : List Cond} {rm : Room} {Pc : Array Value → State → Prop} {Qc : Array Value → State → Outcome → State → Prop} {XC : String → State → State → Prop} {free : Addr → Prop} {Ts : List Cond} {own C : String} {b : Addr} {As rest : List Value} {g : JFrame}
theorem vx_callBack (cb : CallB R s args own index y bytes maxL ret ws rm mc ms n) (hM : vx_Met l y ws rm Pc Qc XC mc ms free) (hbl : FrameBlind Pc) : vx_Back l R p e below s args y 3 8 (PreOf R mc ms Pc) (PostOf Qc mc ms free) (vx_Post XC mc ms free) := by
  obtain ⟨hrc, hrs, hfr, hlo, hws, hcw, -, hini, -⟩ := cb
  exact vx_back (bytes := bytes) (maxL := maxL) (ret := ret) hM hbl hrc hrs hfr hlo hws hcw (fun a' U hW => word_at hW (Or.inl (by first | rfl | simp [Cond.onTables, Cond.keeps, Cond.steady])) hini)
theorem vx_runV (S : CallFix p m c cc nL s args Ts own) (hM : vx_Met l y ws rm Pc Qc XC mc ms free) (cw : CallW R s args own C index y bytes maxL ret ws rm mc ms n) (hp : PreV s H C b Pc As)
    (hg : g.method = m) (hn : As.length = n) (hsize : g.locals.size = nL) (hstack : g.stack = As.reverse ++ .ref b :: rest) (hW : 2 * g.monitorRoom + (rest.map fun v => v.category).sum ≤ 8) (hdg : decode cc g.pc = .ok (.invokevirtual index, 3)) (hf : cells + mc ≤ R.cells ∧ slots + ms ≤ R.slots) :
    vx_Run p l e R s m args below meth c H locs cells slots mc ms g rest (Qc (Value.ref b :: As).toArray) XC free := by
  have hK : vx_Back l R p e below s args y 3 8 (PreOf R mc ms Pc) (PostOf Qc mc ms free) (vx_Post XC mc ms free) := vx_callBack cw.1 hM hp.1
  obtain ⟨⟨-, -, -, -, -, -, hcode, -, hy, hlen, hl⟩, hin, hse⟩ := cw
  obtain ⟨hx, hb, hml, ho, -⟩ := S
  obtain ⟨-, ⟨cellB, hcB, hoB, hclB⟩, hPc⟩ := hp
  intro T hT X
  rcases vx_callV X hx (C := C) (bytes := bytes) (maxL := maxL) (ret := ret) ho hl hin hse hcode hy hK (by rw [hT]; exact hcB) hoB hclB hg (hsize.trans hml.symm) (argsL := As) (rest := rest) (fun sig h => hn.trans (hlen sig h)) hstack hW (by rw [hb]; exact hdg)
    (fun vm₁ hW₁ => ⟨hf.1, hf.2, hPc (T.setVm vm₁) hT hW₁⟩) with ⟨v, vm₁, ⟨U', l2, c2, s2⟩, hW₁, X', ⟨g', mk, t, L, e1, e2, hq, h1, hL, h2, h3⟩, st⟩ | ⟨q, vm₁, ⟨U', l2, c2, s2⟩, hW₁, X', ⟨g', mk, t, L, E, ce, e1, e2, hq, hce, hcv, hcl, h1, hL, h2, h3⟩, st⟩
  · dsimp only [Pt.U, Pt.locs, Pt.cells, Pt.slots] at X' e1 e2 h1 h2 h3 st
    subst h1; subst h2; subst h3
    exact Or.inl ⟨v, (T.setVm vm₁).calling g' mk (Value.ref b :: As).toArray, t, U', L, hT, X', hL, e1, e2, hq, st⟩
  · dsimp only [Pt.U, Pt.locs, Pt.cells, Pt.slots] at X' e1 e2 h1 h2 h3 st hcl
    subst h1; subst h2; subst h3
    exact Or.inr ⟨q, (T.setVm vm₁).calling g' mk (Value.ref b :: As).toArray, t, U', L, E, ce, hT, X', hL, e1, e2, hq, hce, hcv, vx_cls hW₁ hcl, st⟩
theorem vx_runS (S : CallFix p m c cc nL s args Ts own) (hM : vx_Met l y ws rm Pc Qc XC mc ms free) (cw : CallB R s args own index y bytes maxL ret ws rm mc ms n ∧ (Cond.static y).before args s = true) (hp : PreS s H Pc As)
    (hg : g.method = m) (hn : As.length = n) (hsize : g.locals.size = nL) (hstack : g.stack = As.reverse ++ rest) (hW : 2 * g.monitorRoom + (rest.map fun v => v.category).sum ≤ 8) (hdg : decode cc g.pc = .ok (.invokestatic index, 3)) (hf : cells + mc ≤ R.cells ∧ slots + ms ≤ R.slots) :
    vx_Run p l e R s m args below meth c H locs cells slots mc ms g rest (Qc As.toArray) XC free := by
  have hK : vx_Back l R p e below s args y 3 8 (PreOf R mc ms Pc) (PostOf Qc mc ms free) (vx_Post XC mc ms free) := vx_callBack cw.1 hM hp.1
  obtain ⟨⟨-, -, -, -, -, -, hcode, hini, hy, hlen, hl⟩, hstt⟩ := cw
  obtain ⟨hx, hb, hml, ho, -⟩ := S
  intro T hT X
  rcases vx_callS X hx (bytes := bytes) (maxL := maxL) (ret := ret) ho hl hstt hini hcode hy hK hg (hsize.trans hml.symm) (argsL := As) (rest := rest) (fun sig h => hn.trans (hlen sig h)) hstack hW (by rw [hb]; exact hdg)
    (fun vm₁ hW₁ => ⟨hf.1, hf.2, hp.2 (T.setVm vm₁) hT hW₁⟩) with ⟨v, vm₁, ⟨U', l2, c2, s2⟩, hW₁, X', ⟨g', mk, t, L, e1, e2, hq, h1, hL, h2, h3⟩, st⟩ | ⟨q, vm₁, ⟨U', l2, c2, s2⟩, hW₁, X', ⟨g', mk, t, L, E, ce, e1, e2, hq, hce, hcv, hcl, h1, hL, h2, h3⟩, st⟩
  · dsimp only [Pt.U, Pt.locs, Pt.cells, Pt.slots] at X' e1 e2 h1 h2 h3 st
    subst h1; subst h2; subst h3
    exact Or.inl ⟨v, (T.setVm vm₁).calling g' mk As.toArray, t, U', L, hT, X', hL, e1, e2, hq, st⟩
  · dsimp only [Pt.U, Pt.locs, Pt.cells, Pt.slots] at X' e1 e2 h1 h2 h3 st hcl
    subst h1; subst h2; subst h3
    exact Or.inr ⟨q, (T.setVm vm₁).calling g' mk As.toArray, t, U', L, E, ce, hT, X', hL, e1, e2, hq, hce, hcv, vx_cls hW₁ hcl, st⟩
end Runs
section Rows
variable {p : Program} {l : Launch} {e : Env} {R : Room} {s : State} {m : MethodId} {args : Array Value} {below : List Frame} {meth : Method} {c : Code} {H : Heap} {locs : List Loc} {cells slots : Nat} {Q : State → Prop}
variable {mc ms : Nat} {free : Addr → Prop} {A0 A1 : Nat → Prop} {H0 : Heap} {a : Array Value} {pc : Nat} {ls : Array Slot} {st0 rest : List Value}
theorem vx_keep {st₀ t T' : State} {L : List Loc} (h0 : st₀.heap = H) (e1 : T'.heap = t.heap) (hS : va_S A0 H0 H locs) (hA : ∀ q, q < H.size → A1 q → A0 q) (hf : ∀ q, free q → A0 q) (hL : ∀ q ∈ L, free q.base) (hF : va_F A1 st₀ t) :
    H.size ≤ T'.heap.size ∧ (∀ q : Nat, q < H.size → ¬ A1 q → T'.heap[q]? = H[q]?) ∧ va_S A0 H0 T'.heap (locs ++ L) := by
  obtain ⟨hz, hk⟩ := hF
  rw [h0] at hz hk
  exact ⟨by rw [e1]; exact hz, fun q h1 h2 => by rw [e1]; exact hk q h1 h2,
    ⟨Nat.le_trans hS.1 (by rw [e1]; exact hz), fun q h1 h2 => by rw [e1, hk q (Nat.lt_of_lt_of_le h1 hS.1) (fun z => h2 (hA q (Nat.lt_of_lt_of_le h1 hS.1) z))]; exact hS.2.1 q h1 h2, fun q hq => by
      rcases List.mem_append.mp hq with h | h
      · exact hS.2.2 q h
      · exact hf _ (hL q h)⟩⟩
theorem vx_calli {S SX : Type} {post : Int32 → S → Prop} {px : SX → Prop} {B : S → State → Prop} {BX : String → SX → State → Prop} {AX : Nat → Prop} (hr : vx_Run p l e R s m args below meth c H locs cells slots mc ms (F0 m pc ls st0) rest (va_Qi post B A1 a) (vx_X px BX AX) free) (hS : va_S A0 H0 H locs) (hA : ∀ q, q < H.size → A1 q → A0 q) (hf : ∀ q, free q → A0 q) (hAX : ∀ q, q < H.size → AX q → A0 q)
    (kx : ∀ (E : String) (ce : Cell) (q9 : Addr) (u : SX) (t : State) (H1 : Heap) (locs1 : List Loc), t.heap = H1 → s.vm.Alike t.vm → px u → BX E u t → H.size ≤ H1.size → (∀ q : Nat, q < H.size → ¬ AX q → H1[q]? = H[q]?) → va_S A0 H0 H1 locs1 → H1[q9]? = some ce → ce.vm = .none → s.vm.findClass E = some ce.cls → vx_W p l e R s m args below meth c H1 locs1 (cells + mc) (slots + ms) Q (F0 m pc ls rest) q9)
    (kk : ∀ (r : Int32) (u : S) (t : State) (H1 : Heap) (locs1 : List Loc), t.heap = H1 → s.vm.Alike t.vm → post r u → B u t → H.size ≤ H1.size → (∀ q : Nat, q < H.size → ¬ A1 q → H1[q]? = H[q]?) → va_S A0 H0 H1 locs1 → W p l e R s m args below meth c H1 locs1 (cells + mc) (slots + ms) Q (F0 m (pc + 3) ls (.int r :: rest))) : W p l e R s m args below meth c H locs cells slots Q (F0 m pc ls st0) := by
  intro T hT X
  rcases hr T hT X with ⟨v, st₀, t, T', L, h0, X', hL, e1, e2, ⟨⟨r, u, hv, hp, hb⟩, hF⟩, st⟩ | ⟨q, st₀, t, T', L, E, ce, h0, X', hL, e1, e2, ⟨u, hp, hb, hF⟩, hce, hcv, hcl, st⟩
  · cases hv
    obtain ⟨k1, k2, k3⟩ := vx_keep h0 e1 hS hA hf hL hF
    obtain ⟨t2, a1, b1⟩ := kk r u t T'.heap (locs ++ L) e1.symm (by rw [← e2]; exact X'.warmed.alike) hp hb k1 k2 k3 T' rfl X'
    exact ⟨t2, st t2 a1, b1⟩
  · obtain ⟨k1, k2, k3⟩ := vx_keep h0 e1 hS hAX hf hL hF
    obtain ⟨t2, a1, b1⟩ := kx E ce q u t T'.heap (locs ++ L) e1.symm (by rw [← e2]; exact X'.warmed.alike) hp hb k1 k2 k3 (by rw [e1]; exact hce) hcv hcl T' rfl X'
    exact ⟨t2, st.trans a1, b1⟩
theorem vx_calll {S SX : Type} {post : Int64 → S → Prop} {px : SX → Prop} {B : S → State → Prop} {BX : String → SX → State → Prop} {AX : Nat → Prop} (hr : vx_Run p l e R s m args below meth c H locs cells slots mc ms (F0 m pc ls st0) rest (va_Ql post B A1 a) (vx_X px BX AX) free) (hS : va_S A0 H0 H locs) (hA : ∀ q, q < H.size → A1 q → A0 q) (hf : ∀ q, free q → A0 q) (hAX : ∀ q, q < H.size → AX q → A0 q)
    (kx : ∀ (E : String) (ce : Cell) (q9 : Addr) (u : SX) (t : State) (H1 : Heap) (locs1 : List Loc), t.heap = H1 → s.vm.Alike t.vm → px u → BX E u t → H.size ≤ H1.size → (∀ q : Nat, q < H.size → ¬ AX q → H1[q]? = H[q]?) → va_S A0 H0 H1 locs1 → H1[q9]? = some ce → ce.vm = .none → s.vm.findClass E = some ce.cls → vx_W p l e R s m args below meth c H1 locs1 (cells + mc) (slots + ms) Q (F0 m pc ls rest) q9)
    (kk : ∀ (r : Int64) (u : S) (t : State) (H1 : Heap) (locs1 : List Loc), t.heap = H1 → s.vm.Alike t.vm → post r u → B u t → H.size ≤ H1.size → (∀ q : Nat, q < H.size → ¬ A1 q → H1[q]? = H[q]?) → va_S A0 H0 H1 locs1 → W p l e R s m args below meth c H1 locs1 (cells + mc) (slots + ms) Q (F0 m (pc + 3) ls (.long r :: rest))) : W p l e R s m args below meth c H locs cells slots Q (F0 m pc ls st0) := by
  intro T hT X
  rcases hr T hT X with ⟨v, st₀, t, T', L, h0, X', hL, e1, e2, ⟨⟨r, u, hv, hp, hb⟩, hF⟩, st⟩ | ⟨q, st₀, t, T', L, E, ce, h0, X', hL, e1, e2, ⟨u, hp, hb, hF⟩, hce, hcv, hcl, st⟩
  · cases hv
    obtain ⟨k1, k2, k3⟩ := vx_keep h0 e1 hS hA hf hL hF
    obtain ⟨t2, a1, b1⟩ := kk r u t T'.heap (locs ++ L) e1.symm (by rw [← e2]; exact X'.warmed.alike) hp hb k1 k2 k3 T' rfl X'
    exact ⟨t2, st t2 a1, b1⟩
  · obtain ⟨k1, k2, k3⟩ := vx_keep h0 e1 hS hAX hf hL hF
    obtain ⟨t2, a1, b1⟩ := kx E ce q u t T'.heap (locs ++ L) e1.symm (by rw [← e2]; exact X'.warmed.alike) hp hb k1 k2 k3 (by rw [e1]; exact hce) hcv hcl T' rfl X'
    exact ⟨t2, st.trans a1, b1⟩
theorem vx_callf {S SX : Type} {post : UInt32 → S → Prop} {px : SX → Prop} {B : S → State → Prop} {BX : String → SX → State → Prop} {AX : Nat → Prop} (hr : vx_Run p l e R s m args below meth c H locs cells slots mc ms (F0 m pc ls st0) rest (va_Qf post B A1 a) (vx_X px BX AX) free) (hS : va_S A0 H0 H locs) (hA : ∀ q, q < H.size → A1 q → A0 q) (hf : ∀ q, free q → A0 q) (hAX : ∀ q, q < H.size → AX q → A0 q)
    (kx : ∀ (E : String) (ce : Cell) (q9 : Addr) (u : SX) (t : State) (H1 : Heap) (locs1 : List Loc), t.heap = H1 → s.vm.Alike t.vm → px u → BX E u t → H.size ≤ H1.size → (∀ q : Nat, q < H.size → ¬ AX q → H1[q]? = H[q]?) → va_S A0 H0 H1 locs1 → H1[q9]? = some ce → ce.vm = .none → s.vm.findClass E = some ce.cls → vx_W p l e R s m args below meth c H1 locs1 (cells + mc) (slots + ms) Q (F0 m pc ls rest) q9)
    (kk : ∀ (r : UInt32) (u : S) (t : State) (H1 : Heap) (locs1 : List Loc), t.heap = H1 → s.vm.Alike t.vm → post r u → B u t → H.size ≤ H1.size → (∀ q : Nat, q < H.size → ¬ A1 q → H1[q]? = H[q]?) → va_S A0 H0 H1 locs1 → W p l e R s m args below meth c H1 locs1 (cells + mc) (slots + ms) Q (F0 m (pc + 3) ls (.float r :: rest))) : W p l e R s m args below meth c H locs cells slots Q (F0 m pc ls st0) := by
  intro T hT X
  rcases hr T hT X with ⟨v, st₀, t, T', L, h0, X', hL, e1, e2, ⟨⟨r, u, hv, hp, hb⟩, hF⟩, st⟩ | ⟨q, st₀, t, T', L, E, ce, h0, X', hL, e1, e2, ⟨u, hp, hb, hF⟩, hce, hcv, hcl, st⟩
  · cases hv
    obtain ⟨k1, k2, k3⟩ := vx_keep h0 e1 hS hA hf hL hF
    obtain ⟨t2, a1, b1⟩ := kk r u t T'.heap (locs ++ L) e1.symm (by rw [← e2]; exact X'.warmed.alike) hp hb k1 k2 k3 T' rfl X'
    exact ⟨t2, st t2 a1, b1⟩
  · obtain ⟨k1, k2, k3⟩ := vx_keep h0 e1 hS hAX hf hL hF
    obtain ⟨t2, a1, b1⟩ := kx E ce q u t T'.heap (locs ++ L) e1.symm (by rw [← e2]; exact X'.warmed.alike) hp hb k1 k2 k3 (by rw [e1]; exact hce) hcv hcl T' rfl X'
    exact ⟨t2, st.trans a1, b1⟩
theorem vx_calld {S SX : Type} {post : UInt64 → S → Prop} {px : SX → Prop} {B : S → State → Prop} {BX : String → SX → State → Prop} {AX : Nat → Prop} (hr : vx_Run p l e R s m args below meth c H locs cells slots mc ms (F0 m pc ls st0) rest (va_Qd post B A1 a) (vx_X px BX AX) free) (hS : va_S A0 H0 H locs) (hA : ∀ q, q < H.size → A1 q → A0 q) (hf : ∀ q, free q → A0 q) (hAX : ∀ q, q < H.size → AX q → A0 q)
    (kx : ∀ (E : String) (ce : Cell) (q9 : Addr) (u : SX) (t : State) (H1 : Heap) (locs1 : List Loc), t.heap = H1 → s.vm.Alike t.vm → px u → BX E u t → H.size ≤ H1.size → (∀ q : Nat, q < H.size → ¬ AX q → H1[q]? = H[q]?) → va_S A0 H0 H1 locs1 → H1[q9]? = some ce → ce.vm = .none → s.vm.findClass E = some ce.cls → vx_W p l e R s m args below meth c H1 locs1 (cells + mc) (slots + ms) Q (F0 m pc ls rest) q9)
    (kk : ∀ (r : UInt64) (u : S) (t : State) (H1 : Heap) (locs1 : List Loc), t.heap = H1 → s.vm.Alike t.vm → post r u → B u t → H.size ≤ H1.size → (∀ q : Nat, q < H.size → ¬ A1 q → H1[q]? = H[q]?) → va_S A0 H0 H1 locs1 → W p l e R s m args below meth c H1 locs1 (cells + mc) (slots + ms) Q (F0 m (pc + 3) ls (.double r :: rest))) : W p l e R s m args below meth c H locs cells slots Q (F0 m pc ls st0) := by
  intro T hT X
  rcases hr T hT X with ⟨v, st₀, t, T', L, h0, X', hL, e1, e2, ⟨⟨r, u, hv, hp, hb⟩, hF⟩, st⟩ | ⟨q, st₀, t, T', L, E, ce, h0, X', hL, e1, e2, ⟨u, hp, hb, hF⟩, hce, hcv, hcl, st⟩
  · cases hv
    obtain ⟨k1, k2, k3⟩ := vx_keep h0 e1 hS hA hf hL hF
    obtain ⟨t2, a1, b1⟩ := kk r u t T'.heap (locs ++ L) e1.symm (by rw [← e2]; exact X'.warmed.alike) hp hb k1 k2 k3 T' rfl X'
    exact ⟨t2, st t2 a1, b1⟩
  · obtain ⟨k1, k2, k3⟩ := vx_keep h0 e1 hS hAX hf hL hF
    obtain ⟨t2, a1, b1⟩ := kx E ce q u t T'.heap (locs ++ L) e1.symm (by rw [← e2]; exact X'.warmed.alike) hp hb k1 k2 k3 (by rw [e1]; exact hce) hcv hcl T' rfl X'
    exact ⟨t2, st.trans a1, b1⟩
theorem vx_callv {S SX : Type} {post : S → Prop} {px : SX → Prop} {B : S → State → Prop} {BX : String → SX → State → Prop} {AX : Nat → Prop} (hr : vx_Run p l e R s m args below meth c H locs cells slots mc ms (F0 m pc ls st0) rest (va_Qv post B A1 a) (vx_X px BX AX) free) (hS : va_S A0 H0 H locs) (hA : ∀ q, q < H.size → A1 q → A0 q) (hf : ∀ q, free q → A0 q) (hAX : ∀ q, q < H.size → AX q → A0 q)
    (kx : ∀ (E : String) (ce : Cell) (q9 : Addr) (u : SX) (t : State) (H1 : Heap) (locs1 : List Loc), t.heap = H1 → s.vm.Alike t.vm → px u → BX E u t → H.size ≤ H1.size → (∀ q : Nat, q < H.size → ¬ AX q → H1[q]? = H[q]?) → va_S A0 H0 H1 locs1 → H1[q9]? = some ce → ce.vm = .none → s.vm.findClass E = some ce.cls → vx_W p l e R s m args below meth c H1 locs1 (cells + mc) (slots + ms) Q (F0 m pc ls rest) q9)
    (kk : ∀ (u : S) (t : State) (H1 : Heap) (locs1 : List Loc), t.heap = H1 → s.vm.Alike t.vm → post u → B u t → H.size ≤ H1.size → (∀ q : Nat, q < H.size → ¬ A1 q → H1[q]? = H[q]?) → va_S A0 H0 H1 locs1 → W p l e R s m args below meth c H1 locs1 (cells + mc) (slots + ms) Q (F0 m (pc + 3) ls (rest))) : W p l e R s m args below meth c H locs cells slots Q (F0 m pc ls st0) := by
  intro T hT X
  rcases hr T hT X with ⟨v, st₀, t, T', L, h0, X', hL, e1, e2, ⟨⟨u, hv, hp, hb⟩, hF⟩, st⟩ | ⟨q, st₀, t, T', L, E, ce, h0, X', hL, e1, e2, ⟨u, hp, hb, hF⟩, hce, hcv, hcl, st⟩
  · cases hv
    obtain ⟨k1, k2, k3⟩ := vx_keep h0 e1 hS hA hf hL hF
    obtain ⟨t2, a1, b1⟩ := kk u t T'.heap (locs ++ L) e1.symm (by rw [← e2]; exact X'.warmed.alike) hp hb k1 k2 k3 T' rfl X'
    exact ⟨t2, st t2 a1, b1⟩
  · obtain ⟨k1, k2, k3⟩ := vx_keep h0 e1 hS hAX hf hL hF
    obtain ⟨t2, a1, b1⟩ := kx E ce q u t T'.heap (locs ++ L) e1.symm (by rw [← e2]; exact X'.warmed.alike) hp hb k1 k2 k3 (by rw [e1]; exact hce) hcv hcl T' rfl X'
    exact ⟨t2, st.trans a1, b1⟩
/-- caught by the row x of this method's table; the rows ahead don't take it -/
theorem vx_catch {own name : String} {E : String} {ce : Cell} {q : Addr} (hown : s.vm.findClass own = some m.cls) (pre : List ExceptionTableEntry) (x : ExceptionTableEntry) (suf : List ExceptionTableEntry) (hsplit : c.exceptionTable.toList = pre ++ x :: suf)
    (hpass : ∀ z ∈ pre, covers z pc = false ∨ (z.catchType ≠ 0 ∧ ∃ nm : String, (Cond.classLink own z.catchType nm).before args s = true ∧ va_Nc E nm s)) (hx : covers x pc = true) (h0 : x.catchType ≠ 0)
    (hlink : (Cond.classLink own x.catchType name).before args s = true) (hcast : (Cond.castable E name).before args s = true) (hcell : H[q]? = some ce) (hv : ce.vm = .none) (hcl : s.vm.findClass E = some ce.cls)
    (kk : W p l e R s m args below meth c H locs cells slots Q (F0 m x.handlerPc ls [.ref q])) : vx_W p l e R s m args below meth c H locs cells slots Q (F0 m pc ls rest) q := by
  intro T hT X
  have hpl : e.platform.magicAccessors = ({} : Platform).magicAccessors := by rw [X.admits.platform]
  obtain ⟨c3, c4, hc3, hc4, hasg⟩ := Cond.castable_spec hcast
  cases Option.some.inj (hc3.symm.trans hcl)
  obtain ⟨c5, hc5, hcl5⟩ := Cond.classLink_spec hown hlink e.platform hpl
  cases Option.some.inj (hc4.symm.trans hc5)
  obtain ⟨vm', X', st⟩ := X.thenCaughtThrough q (g := F0 m pc ls rest) rfl (Steps.refl _) (by rw [hT]; exact hcell) (by rw [hv]; rfl) (by obtain ⟨k9, h9, -⟩ := Vm.findClass_spec hcl; exact ⟨k9, h9⟩) pre x suf hsplit
    (fun z hz => by
      rcases hpass z hz with h | ⟨hz0, nm, hl1, hn1⟩
      · exact Or.inl h
      · obtain ⟨c6, hc6, hcl6⟩ := Cond.classLink_spec hown hl1 e.platform hpl
        obtain ⟨a8, b8, h1, h2, h3⟩ := hn1
        cases Option.some.inj (h1.symm.trans hcl)
        cases Option.some.inj (h2.symm.trans hc6)
        exact Or.inr ⟨hz0, _, hcl6, h3⟩) hx (Or.inr ⟨h0, c4, hcl5, hasg⟩)
  obtain ⟨t, a1, b1⟩ := kk (T.setVm vm') hT X'
  exact ⟨t, st.trans a1, b1⟩
end Rows
section Ends
variable {p : Program} {l : Launch} {e : Env} {R : Room} {s : State} {m : MethodId} {args : Array Value} {below : List Frame} {meth : Method} {c : Code} {H : Heap} {locs : List Loc} {cells slots : Nat} {Q : State → Prop}
variable {mc ms : Nat} {free : Addr → Prop} {A0 A1 : Nat → Prop} {H0 : Heap} {a : Array Value} {ls : Array Slot} {st0 rest : List Value}
variable {Qc : Array Value → State → Outcome → State → Prop} {XC : String → State → State → Prop}
/-- what a body that may throw owes at its end -/
def vx_MQ (below : List Frame) (Qc : Array Value → State → Outcome → State → Prop) (XC : String → State → State → Prop) (a : Array Value) (s : State) (mc ms : Nat) (free : Addr → Prop) : State → Prop := fun t =>
  ∃ o, t.status = .running ∧ Ended t below o ∧ vx_Q Qc XC mc ms free a s o t
theorem vx_ret {g : JFrame} {mc ms : Nat} (k : W p l e R s m args below meth c H locs cells slots (MQ below Qc args s mc ms free) g) : W p l e R s m args below meth c H locs cells slots (vx_MQ below Qc XC args s mc ms free) g := by
  intro T hT X
  obtain ⟨t, a1, o, b1, b2, b3, b4⟩ := k T hT X
  exact ⟨t, a1, o, b1, b2, Or.inl ⟨b3, b4⟩⟩
/-- not caught here: it goes on to the caller -/
theorem vx_widen {g : JFrame} {q : Addr} {k n : Nat} (h1 : cells ≤ k) (h2 : slots ≤ n) (kk : vx_W p l e R s m args below meth c H locs k n Q g q) : vx_W p l e R s m args below meth c H locs cells slots Q g q := fun T hT X => kk T hT (stand_widen X h1 h2)
theorem vx_out {pc : Nat} {E : String} {ce : Cell} {q : Addr} {mc ms : Nat} (hout : ∀ x ∈ c.exceptionTable.toList, covers x pc = false) (hlocks : meth.locks = false) (hcell : H[q]? = some ce) (hv : ce.vm = .none) (hcl : s.vm.findClass E = some ce.cls)
    (hx : ∀ t : State, t.heap = H → s.vm.Alike t.vm → XC E s t) (hf : ∀ z ∈ locs, free z.base) (hc : cells ≤ mc) (hs : slots ≤ ms) :
    vx_W p l e R s m args below meth c H locs cells slots (vx_MQ below Qc XC args s mc ms free) (F0 m pc ls rest) q := by
  intro T hT X
  obtain ⟨st1, hrun, hend, hW, hsm⟩ := X.leaveThrown q (g := F0 m pc ls rest) rfl rfl rfl hout hlocks
  have hcell9 : (T.setFrames (.throwing q :: below)).heap[q]? = some ce := by
    show T.heap[q]? = some ce
    rw [hT]; exact hcell
  exact ⟨_, st1, .threw q, hrun, hend, Or.inr ⟨q, rfl, E, ce, locs, hx _ hT hW.alike, hcell9, hv, hcl, hW, hsm.mono hc hs, hf⟩⟩
theorem vx_frame {U : State} {k n : Nat} (h : s.sameButNew ({ U with vm := s.vm } : State) locs k n) : s.heap.size ≤ U.heap.size ∧ ∀ q : Nat, q < s.heap.size → (∀ z ∈ locs, z.base ≠ q) → U.heap[q]? = s.heap[q]? := by
  obtain ⟨-, h2, -, -, -, h6⟩ := h
  refine ⟨h2, fun q hq hz => ?_⟩
  obtain ⟨c9, e1, e2, e3, e4⟩ := h6 q _ (Array.getElem?_eq_getElem hq)
  have hs : c9.slots = (s.heap[q]).slots := Array.ext_getElem? fun i => e4 i fun hm => hz _ hm rfl
  have h9 : c9 = s.heap[q] := by
    rw [hs] at e2
    exact e2
  have e5 : U.heap[q]? = some c9 := e1
  rw [e5, h9, Array.getElem?_eq_getElem hq]
/-- the words of a throw but the four that speak of the heap -/
def vx_no (w : Cond) : Bool := decide (w ≠ .isRef (.static Bundle.tN "UNASSIGNED_STACK" Bundle.steD)) && decide (w ≠ .isRef (.static Bundle.tN "SUPPRESSED_SENTINEL" Bundle.listD)) && decide (w ≠ .laysStatic Bundle.tN "UNASSIGNED_STACK" Bundle.steD) && decide (w ≠ .laysStatic Bundle.tN "SUPPRESSED_SENTINEL" Bundle.listD)
def vx_at0 (own : String) (ic : Nat) (X : String) (names : List String) : List Cond := (Bundle.ownAtoms0 own ic X names).filter vx_no
def vx_atS (own : String) (ic : Nat) (X : String) (names : List String) : List Cond := (Bundle.ownAtoms own ic X names).filter vx_no
/-- a word that the tables alone decide, or a good one -/
def vx_ot (w : Cond) : Bool := w.onTables || goodWord w
theorem vx_ot_at {args a' : Array Value} {s U : State} {w : Cond} (hW : s.WarmedH U.vm) (hvm : s.vm = U.vm) (hg : vx_ot w = true) (h : w.before args s = true) : w.before a' U = true := by
  simp only [vx_ot, Bool.or_eq_true] at hg
  rcases hg with hg | hg
  · exact va_tabs hg hvm h
  · exact word_at hW (good_of_word hg) h
/-- a list's words: the good ones out of the method's own list, the others by premises of their own -/
theorem vx_hat {args : Array Value} {s : State} {L B : List Cond} (h1 : ∀ w ∈ L.filter goodWord, w.before args s = true) (h2 : ∀ w ∈ L.filter (fun w => !goodWord w), w ∈ B) (h3 : ∀ w ∈ B, w.before args s = true) : ∀ w ∈ L, w.before args s = true := by
  intro w hw
  by_cases g : goodWord w = true
  · exact h1 w (List.mem_filter.mpr ⟨hw, g⟩)
  · refine h3 w (h2 w (List.mem_filter.mpr ⟨hw, ?_⟩))
    show (!goodWord w) = true
    cases hgw : goodWord w
    · rfl
    · exact absurd hgw g
theorem vx_c {args : Array Value} {s : State} {w : Cond} {B : List Cond} (h : w.before args s = true) (t : ∀ w ∈ B, w.before args s = true) : ∀ w' ∈ w :: B, w'.before args s = true := fun w' h' => (List.mem_cons.mp h').elim (fun e => by rw [e]; exact h) (t w')
theorem vx_n {args : Array Value} {s : State} : ∀ w ∈ ([] : List Cond), w.before args s = true := fun _ h => nomatch h
theorem vx_own {args : Array Value} {s : State} {L : List Cond} (h1 : ∀ w ∈ L.filter vx_no, w.before args s = true)
    (hU : (Cond.isRef (.static Bundle.tN "UNASSIGNED_STACK" Bundle.steD)).before args s = true) (hN : (Cond.isRef (.static Bundle.tN "SUPPRESSED_SENTINEL" Bundle.listD)).before args s = true)
    (lU : (Cond.laysStatic Bundle.tN "UNASSIGNED_STACK" Bundle.steD).before args s = true) (lN : (Cond.laysStatic Bundle.tN "SUPPRESSED_SENTINEL" Bundle.listD).before args s = true) : ∀ w ∈ L, w.before args s = true := by
  intro w hw
  by_cases e1 : w = .isRef (.static Bundle.tN "UNASSIGNED_STACK" Bundle.steD)
  · rw [e1]; exact hU
  · by_cases e2 : w = .isRef (.static Bundle.tN "SUPPRESSED_SENTINEL" Bundle.listD)
    · rw [e2]; exact hN
    · by_cases e3 : w = .laysStatic Bundle.tN "UNASSIGNED_STACK" Bundle.steD
      · rw [e3]; exact lU
      · by_cases e4 : w = .laysStatic Bundle.tN "SUPPRESSED_SENTINEL" Bundle.listD
        · rw [e4]; exact lN
        · exact h1 w (List.mem_filter.mpr ⟨hw, by unfold vx_no; rw [decide_eq_true e1, decide_eq_true e2, decide_eq_true e3, decide_eq_true e4]; rfl⟩)
/-- where a static field lies, its class's statics cell in H -/
def vx_L (C n d : String) (A : Nat → Prop) (U : State) (H : Heap) : Prop := ∃ (c : ClassId) (k : Class) (i : Nat) (f : Field) (a : Nat) (cell : Cell), U.vm.findClass C = some c ∧ U.fieldFound? C n d = some (c, k, i, f) ∧ f.isStatic = true ∧ k.statics = some a ∧ H[a]? = some cell ∧ cell.vm.isStatics = true ∧ cell.cls = c ∧ f.slot < cell.slots.size ∧ k.staticTypes[f.slot]? = some f.type ∧ ¬ A a
theorem vx_L.moved {C n d : String} {A : Nat → Prop} {u U : State} {H : Heap} (hvm : u.vm.Alike U.vm) (h : vx_L C n d A u H) : vx_L C n d A U H := by
  obtain ⟨c, k, i, f, a, cell, h1, h2, h3, h4, h5, h6, h7, h8, h9, h10⟩ := h
  obtain ⟨k', hi', he⟩ := State.fieldFound?_setVm hvm h2
  exact ⟨c, k', i, f, a, cell, by rw [hvm.findClass]; exact h1, hi', h3, by rw [he]; exact h4, h5, h6, h7, h8, by rw [he]; exact h9, h10⟩
theorem vx_L.kept {C n d : String} {A : Nat → Prop} {U : State} {H H1 : Heap} (h : vx_L C n d A U H) (hq : ∀ a : Nat, a < H.size → ¬ A a → H1[a]? = H[a]?) : vx_L C n d A U H1 := by
  obtain ⟨c, k, i, f, a, cell, h1, h2, h3, h4, h5, h6, h7, h8, h9, h10⟩ := h
  exact ⟨c, k, i, f, a, cell, h1, h2, h3, h4, by rw [hq a (Array.getElem?_eq_some_iff.mp h5).1 h10]; exact h5, h6, h7, h8, h9, h10⟩
theorem vx_L.narrow {C n d : String} {A B : Nat → Prop} {U : State} {H : Heap} (h : vx_L C n d A U H) (hAB : ∀ q, B q → A q) : vx_L C n d B U H := by
  obtain ⟨c, k, i, f, a, cell, h1, h2, h3, h4, h5, h6, h7, h8, h9, h10⟩ := h
  exact ⟨c, k, i, f, a, cell, h1, h2, h3, h4, h5, h6, h7, h8, h9, fun z => h10 (hAB _ z)⟩
theorem vx_L.word {C n d : String} {A : Nat → Prop} {s : State} {args : Array Value} (h : vx_L C n d A s s.heap) : (Cond.laysStatic C n d).before args s = true := by
  obtain ⟨c, k, i, f, a, cell, h1, h2, h3, h4, h5, h6, h7, h8, h9, -⟩ := h
  show (Cond.laysStatic C n d).holds args s none s [] = true
  exact Cond.laysStatic_of h1 h2 h3 h4 h5 h6 h7 h8 h9
/-- .. and what it holds: null or some reference -/
def vx_Zq (C n d : String) (A : Nat → Prop) (U : State) (H : Heap) : Prop := va_Zq C n d A U H ∧ vx_L C n d A U H
theorem vx_Zq.moved {C n d : String} {A : Nat → Prop} {u U : State} {H : Heap} (hvm : u.vm.Alike U.vm) (h : vx_Zq C n d A u H) : vx_Zq C n d A U H := ⟨va_Zq.moved hvm h.1, vx_L.moved hvm h.2⟩
theorem vx_Zq.kept {C n d : String} {A : Nat → Prop} {U : State} {H H1 : Heap} (h : vx_Zq C n d A U H) (hq : ∀ a : Nat, a < H.size → ¬ A a → H1[a]? = H[a]?) : vx_Zq C n d A U H1 := ⟨va_Zq.kept h.1 hq, vx_L.kept h.2 hq⟩
theorem vx_Zq.narrow {C n d : String} {A B : Nat → Prop} {U : State} {H : Heap} (h : vx_Zq C n d A U H) (hAB : ∀ q, B q → A q) : vx_Zq C n d B U H := ⟨va_Zq.narrow h.1 hAB, vx_L.narrow h.2 hAB⟩
theorem vx_Zqof {args : Array Value} {s : State} {C n d : String} {A : Nat → Prop} (hl : (Cond.laysStatic C n d).before args s = true) (hini : (Cond.initialized C).before args s = true) (h : (Cond.isRef (.static C n d)).before args s = true) (hA : ∀ a : Nat, a < s.heap.size → ¬ A a) : vx_Zq C n d A s s.heap := by
  refine ⟨va_Zqof hl hini h hA, ?_⟩
  obtain ⟨c, k, i, f, a, cell, h1, h2, h3, h4, h5, h6, h7, h8, h9⟩ := Cond.laysStatic_spec hl
  exact ⟨c, k, i, f, a, cell, h1, h2, h3, h4, h5, h6, h7, h8, h9, hA a (Array.getElem?_eq_some_iff.mp h5).1⟩
theorem vx_isRef {C n d : String} {v : Value} {A : Nat → Prop} {s : State} {args : Array Value} (h : va_Z C n d v A s s.heap) (hv : v.isRef = true) : (Cond.isRef (.static C n d)).before args s = true := by
  obtain ⟨cf, kf, fi, f, a, cell, h1, h2, h3, h4, h5, h6, h7, -⟩ := h
  have he : (Term.static C n d).eval args s none [] s = some v := by
    simp [Term.eval, State.fieldNamed?, h1, h2, h4, h5, h6, h7]
  simp only [Cond.before, Cond.holds, Cond.value, he]
  cases v <;> simp_all [Value.isRef]
theorem vx_isRefq {C n d : String} {A : Nat → Prop} {s : State} {args : Array Value} (h : va_Zq C n d A s s.heap) : (Cond.isRef (.static C n d)).before args s = true := by
  rcases h with h | ⟨t, h⟩
  · exact vx_isRef h rfl
  · exact vx_isRef h rfl
/-- the same frame, seen from here: as if the method were called anew in this heap -/
theorem vx_rebase {T : State} (X : Stand p l e R s m args below meth c T locs cells slots) {R' : Room} (hf : R'.frames ≤ R.frames) (hl : R'.locals ≤ R.locals) (hc : cells + R'.cells ≤ R.cells) (hs : slots + R'.slots ≤ R.slots) :
    Stand p l e R' ((T.setVm s.vm).setFrames (.invoking m args :: below)) m args below meth c T [] 0 0 := by
  have htop : (T.setVm s.vm).topJava?.isSome := X.here.top
  have hF : ((T.setVm s.vm).setFrames (.invoking m args :: below)).frames = .invoking m args :: below := State.frames_setFrames _ (State.cur_lt_of_top htop)
  obtain ⟨g₀, hg0⟩ := Option.isSome_iff_exists.mp htop
  obtain ⟨r, hr⟩ := State.topJava?_eq_some.mp hg0
  have hl9 : e.platform.stackLimits (T.setVm s.vm).me = e.platform.stackLimits s.me := X.limits
  have hb9 : (T.setVm s.vm).me.stackBytes = s.me.stackBytes := X.bytes
  refine ⟨X.admits, X.cas, X.clock, hF, ?_, X.hears, X.method, X.code, X.here, X.tail, X.warmed, ?_, ?_, ?_⟩
  · have h := X.room
    have hU : ((T.setVm s.vm).setFrames (.invoking m args :: below)).localsInUse = s.localsInUse := by
      rw [State.localsInUse_invoking hF (meth := meth) (c := c) X.method X.code, State.localsInUse_invoking X.frames X.method X.code]
    simp only [State.hasRoom, Bool.and_eq_true, decide_eq_true_eq] at h ⊢
    obtain ⟨⟨⟨⟨h1, h2, h3, h4, h5, h6⟩, h7⟩, h8⟩, h9⟩ := h
    rw [X.frames, List.length_cons] at h2 h3
    have q1 := X.heapSize
    have q2 := X.used
    simp only [hF, hU, List.length_cons, State.stackLimits_setFrames, State.stackBytes_setFrames, hl9, hb9]
    refine ⟨⟨⟨⟨by omega, by omega, by omega, by omega, by omega, h6⟩, ?_⟩, ?_⟩, X.book⟩
    · show T.heap.size + R'.cells ≤ e.platform.maxCells
      omega
    · show T.slotsUsed + R'.slots ≤ e.platform.maxSlots
      omega
  · rw [State.stackLimits_setFrames]; rfl
  · rw [State.stackBytes_setFrames]; rfl
  · refine ⟨?_, Nat.le_refl _, Nat.le_refl _, ?_, ?_, fun a c9 h9 => ⟨c9, h9, rfl, rfl, fun _ _ => rfl⟩⟩
    · obtain ⟨t, ht, -⟩ := State.frames_cons hr
      show T.setVm s.vm = { ((T.setVm s.vm).setFrames (.invoking m args :: below)).setFrames (T.setVm s.vm).frames with heap := T.heap, slotsUsed := T.slotsUsed }
      rw [State.setFrames_setFrames, State.setFrames_self ht]
      rfl
    · show T.slotsUsed = T.slotsUsed + ((T.heap.toList.drop T.heap.size).map (·.slots.size)).sum
      rw [List.drop_eq_nil_of_le (Nat.le_of_eq Array.length_toList)]
      rfl
    · show ((T.heap.toList.drop T.heap.size).map (·.slots.size)).sum ≤ 0
      rw [List.drop_eq_nil_of_le (Nat.le_of_eq Array.length_toList)]
      exact Nat.le_refl _
/-- 'throw new E()': new; dup; invokespecial; athrow -/
theorem vx_throw0 {cc : ByteArray} {pc : Nat} (hexec : p.tables.exec = Jvm.exec) (hb : c.code = cc) (hl : l.stackTraces = false) {own cls : String} {names : List String} {ik ic mc ms : Nat} {A : Nat → Prop}
    (hown : s.vm.findClass own = some m.cls) (hcls : Bundle.fit cls = true) (hnames : ∀ n ∈ names, Bundle.fit n = true)
    (hk : (Cond.classLink own ik cls).before args s = true) (hini : (Cond.initialized cls).before args s = true) (hat : ∀ w ∈ vx_at0 own ic cls names, w.before args s = true)
    (hgood : ∀ w ∈ Cond.classLink own ik cls :: Cond.initialized cls :: vx_at0 own ic cls names, vx_ot w = true)
    (hU : vx_Zq Bundle.tN "UNASSIGNED_STACK" Bundle.steD A s s.heap) (hN : vx_Zq Bundle.tN "SUPPRESSED_SENTINEL" Bundle.listD A s s.heap) (hS : va_S A s.heap H locs) (hsize : ls.size = c.maxLocals)
    (d0 : decode cc pc = .ok (.new ik, 3)) (d3 : decode cc (pc + 3) = .ok (.dup, 1)) (d4 : decode cc (pc + 4) = .ok (.invokespecial ic, 3)) (d7 : decode cc (pc + 7) = .ok (.athrow, 1))
    (hout : ∀ x ∈ c.exceptionTable.toList, covers x (pc + 7) = false)
    (hRframes : names.length + 3 < R.frames) (hRlocals : (rest.map fun v => v.category).sum + (13 * (names.length + 1) + 42) ≤ R.locals) (hRcells : cells + 1 ≤ R.cells) (hRslots : slots + 6 ≤ R.slots) (hlocks : meth.locks = false)
    (hx : ∀ t : State, s.vm.Alike t.vm → H.size ≤ t.heap.size → (∀ q : Nat, q < H.size → t.heap[q]? = H[q]?) → XC cls s t)
    (hf : ∀ z ∈ locs, free z.base) (hc : cells + 1 ≤ mc) (hs : slots + 6 ≤ ms) :
    W p l e R s m args below meth c H locs cells slots (vx_MQ below Qc XC args s mc ms free) (F0 m pc ls rest) := by
  intro T hT X
  have htr : e.platform.stackTraces = false := (show e.platform.stackTraces = l.stackTraces by rw [X.admits.platform]).trans hl
  have Y := vx_rebase X (R' := { frames := R.frames, locals := R.locals, cells := 1, slots := 6 }) (Nat.le_refl _) (Nat.le_refl _) hRcells hRslots
  obtain ⟨s', hA⟩ : ∃ z, z = (T.setVm s.vm).setFrames (.invoking m args :: below) := ⟨_, rfl⟩
  rw [← hA] at Y
  have hvm : s'.vm = s.vm := by rw [hA]; rfl
  have hhp : s'.heap = H := by rw [hA]; exact hT
  have hW0 : s.WarmedH s'.vm := by rw [hvm]; exact State.WarmedH.refl s
  have hat' : ∀ w ∈ vx_at0 own ic cls names, w.before args s' = true := fun w hw => vx_ot_at hW0 hvm.symm (hgood w (List.mem_cons_of_mem _ (List.mem_cons_of_mem _ hw))) (hat w hw)
  have hk' : (Cond.classLink own ik cls).before args s' = true := vx_ot_at hW0 hvm.symm (hgood _ List.mem_cons_self) hk
  have hini' : (Cond.initialized cls).before args s' = true := vx_ot_at hW0 hvm.symm (hgood _ (List.mem_cons_of_mem _ List.mem_cons_self)) hini
  have hU' : vx_Zq Bundle.tN "UNASSIGNED_STACK" Bundle.steD A s' s'.heap := by rw [hhp]; exact vx_Zq.moved hW0.alike (hU.kept hS.2.1)
  have hN' : vx_Zq Bundle.tN "SUPPRESSED_SENTINEL" Bundle.listD A s' s'.heap := by rw [hhp]; exact vx_Zq.moved hW0.alike (hN.kept hS.2.1)
  have h : ∀ w ∈ Bundle.ownAtoms0 own ic cls names, w.before args s' = true := vx_own hat' (vx_isRefq hU'.1) (vx_isRefq hN'.1) hU'.2.word hN'.2.word
  have hown' : s'.vm.findClass own = some m.cls := by rw [hvm]; exact hown
  have hins : (Cond.instantiable cls 6).before args s' = true := h _ (by simp [Bundle.ownAtoms0])
  obtain ⟨vm₁, cX, kX, hfX, hkX, -, -, X₁, st1⟩ := Y.newCold hexec (own := own) (C := cls) (index := ik) (n := 6) hown' hk' hins hini'
    (g := F0 m pc ls rest) rfl (by rw [hb]; exact d0) (Nat.le_refl _) (Nat.le_refl _)
  generalize hT1 : (T.setVm vm₁).pushCell { cls := cX, slots := kX.instanceTypes.map defaultValue, vm := .none } = T1 at X₁ st1
  have hcat : (Value.ref T.heap.size).category = 1 := rfl
  have hcellA : T1.heap[T.heap.size]? = some (freshCell cX kX) := by rw [← hT1]; exact State.heap_pushCell_size _ _
  have d3' : decode c.code (pc + 3) = .ok (.dup, 1) := by rw [hb]; exact d3
  obtain ⟨U, hsteps, hrun, hend, hW, hsame, ce, hce, hO⟩ := X₁.ctorThrow0 hexec htr (own := own) (cls := cls) (names := names) (ic := ic) hown' hcls hnames h (fun x hx => nomatch hx) hfX hkX hcellA (by rw [hhp, hT]; exact Nat.le_refl _)
    (g := { method := m, pc := pc + 4, locals := ls, stack := .ref T.heap.size :: .ref T.heap.size :: rest, locked := none }) rfl hsize rfl rfl (rest := rest) rfl
    (by rw [hb]; exact d4) (by rw [hb]; exact d7) hout hRframes (by simp only [List.map_cons, List.sum_cons, hcat]; omega) hlocks
  obtain ⟨f1, f2⟩ := vx_frame hsame
  rw [hhp] at f1 f2
  have hWs : s.WarmedH U.vm := State.WarmedH.trans hW0 hW
  have hcl : s.vm.findClass cls = some ce.cls := by
    have h9 := hO.cls
    rw [hvm] at h9
    exact h9
  have hall : s.sameButNew ({ U with vm := s.vm } : State) locs mc ms := by
    subst hA
    obtain ⟨e1, e2⟩ := hsame
    rw [State.setFrames_setFrames] at e1
    have h2 : (T.setVm s.vm).sameButNew ({ U with vm := s.vm } : State) [] (0 + 1) (0 + 6) := ⟨e1, e2⟩
    have h3 := X.same.trans h2
    rw [List.append_nil] at h3
    exact h3.mono hc hs
  refine ⟨U, ?_, .threw T.heap.size, hrun, hend, Or.inr ⟨T.heap.size, rfl, cls, ce, locs, hx U hWs.alike f1 (fun q hq => f2 q hq (fun z hz => nomatch hz)), hce, hO.vm, hcl, hWs, hall, hf⟩⟩
  refine st1 _ ?_
  show Steps p.tables e below (T1.setTop { method := m, pc := pc + 3, locals := ls, stack := .ref T.heap.size :: rest, locked := none }) _
  jvm_step X₁.here [X₁.here.top, hexec, d3', Value.category]
  exact hsteps
/-- 'throw new E("text")': new; dup; ldc; invokespecial; athrow -/
theorem vx_throwS {cc : ByteArray} {pc : Nat} (hexec : p.tables.exec = Jvm.exec) (hb : c.code = cc) (hl : l.stackTraces = false) {own cls text : String} {names : List String} {ik is ic mc ms sa : Nat} {A : Nat → Prop}
    (hown : s.vm.findClass own = some m.cls) (hcls : Bundle.fit cls = true) (hnames : ∀ n ∈ names, Bundle.fit n = true)
    (hk : (Cond.classLink own ik cls).before args s = true) (hini : (Cond.initialized cls).before args s = true) (hstr : vk_R own is text sa s) (hat : ∀ w ∈ vx_atS own ic cls names, w.before args s = true)
    (hgood : ∀ w ∈ Cond.classLink own ik cls :: Cond.initialized cls :: vx_atS own ic cls names, vx_ot w = true)
    (hU : vx_Zq Bundle.tN "UNASSIGNED_STACK" Bundle.steD A s s.heap) (hN : vx_Zq Bundle.tN "SUPPRESSED_SENTINEL" Bundle.listD A s s.heap) (hS : va_S A s.heap H locs) (hsize : ls.size = c.maxLocals)
    (d0 : decode cc pc = .ok (.new ik, 3)) (d3 : decode cc (pc + 3) = .ok (.dup, 1)) (d4 : decode cc (pc + 4) = .ok (.ldc is, 2)) (d6 : decode cc (pc + 6) = .ok (.invokespecial ic, 3)) (d9 : decode cc (pc + 9) = .ok (.athrow, 1))
    (hout : ∀ x ∈ c.exceptionTable.toList, covers x (pc + 9) = false)
    (hRframes : names.length + 3 < R.frames) (hRlocals : (rest.map fun v => v.category).sum + (13 * (names.length + 1) + 43) ≤ R.locals) (hRcells : cells + 1 ≤ R.cells) (hRslots : slots + 6 ≤ R.slots) (hlocks : meth.locks = false)
    (hx : ∀ t : State, s.vm.Alike t.vm → H.size ≤ t.heap.size → (∀ q : Nat, q < H.size → t.heap[q]? = H[q]?) → XC cls s t)
    (hf : ∀ z ∈ locs, free z.base) (hc : cells + 1 ≤ mc) (hs : slots + 6 ≤ ms) :
    W p l e R s m args below meth c H locs cells slots (vx_MQ below Qc XC args s mc ms free) (F0 m pc ls rest) := by
  intro T hT X
  have htr : e.platform.stackTraces = false := (show e.platform.stackTraces = l.stackTraces by rw [X.admits.platform]).trans hl
  have Y := vx_rebase X (R' := { frames := R.frames, locals := R.locals, cells := 1, slots := 6 }) (Nat.le_refl _) (Nat.le_refl _) hRcells hRslots
  obtain ⟨s', hA⟩ : ∃ z, z = (T.setVm s.vm).setFrames (.invoking m args :: below) := ⟨_, rfl⟩
  rw [← hA] at Y
  have hvm : s'.vm = s.vm := by rw [hA]; rfl
  have hhp : s'.heap = H := by rw [hA]; exact hT
  have hW0 : s.WarmedH s'.vm := by rw [hvm]; exact State.WarmedH.refl s
  have hat' : ∀ w ∈ vx_atS own ic cls names, w.before args s' = true := fun w hw => vx_ot_at hW0 hvm.symm (hgood w (List.mem_cons_of_mem _ (List.mem_cons_of_mem _ hw))) (hat w hw)
  have hk' : (Cond.classLink own ik cls).before args s' = true := vx_ot_at hW0 hvm.symm (hgood _ List.mem_cons_self) hk
  have hini' : (Cond.initialized cls).before args s' = true := vx_ot_at hW0 hvm.symm (hgood _ (List.mem_cons_of_mem _ List.mem_cons_self)) hini
  have hU' : vx_Zq Bundle.tN "UNASSIGNED_STACK" Bundle.steD A s' s'.heap := by rw [hhp]; exact vx_Zq.moved hW0.alike (hU.kept hS.2.1)
  have hN' : vx_Zq Bundle.tN "SUPPRESSED_SENTINEL" Bundle.listD A s' s'.heap := by rw [hhp]; exact vx_Zq.moved hW0.alike (hN.kept hS.2.1)
  have h : ∀ w ∈ Bundle.ownAtoms own ic cls names, w.before args s' = true := vx_own hat' (vx_isRefq hU'.1) (vx_isRefq hN'.1) hU'.2.word hN'.2.word
  have hown' : s'.vm.findClass own = some m.cls := by rw [hvm]; exact hown
  have hins : (Cond.instantiable cls 6).before args s' = true := h _ (by simp [Bundle.ownAtoms])
  obtain ⟨vm₁, cX, kX, hfX, hkX, -, -, X₁, st1⟩ := Y.newCold hexec (own := own) (C := cls) (index := ik) (n := 6) hown' hk' hins hini'
    (g := F0 m pc ls rest) rfl (by rw [hb]; exact d0) (Nat.le_refl _) (Nat.le_refl _)
  generalize hT1 : (T.setVm vm₁).pushCell { cls := cX, slots := kX.instanceTypes.map defaultValue, vm := .none } = T1 at X₁ st1
  have hcat : (Value.ref T.heap.size).category = 1 := rfl
  have hcellA : T1.heap[T.heap.size]? = some (freshCell cX kX) := by rw [← hT1]; exact State.heap_pushCell_size _ _
  have d3' : decode c.code (pc + 3) = .ok (.dup, 1) := by rw [hb]; exact d3
  have d4' : decode c.code (pc + 4) = .ok (.ldc is, 2) := by rw [hb]; exact d4
  have hstr' : vk_R own is text sa s' := vk_R.warm hW0 hstr
  obtain ⟨U, hsteps, hrun, hend, hW, hsame, ce, hce, hO⟩ := X₁.ctorThrowS hexec htr (own := own) (cls := cls) (names := names) (ic := ic) hown' hcls hnames h (fun x hx => nomatch hx) hfX hkX hcellA (by rw [hhp, hT]; exact Nat.le_refl _) (msg := .ref sa) rfl
    (g := { method := m, pc := pc + 6, locals := ls, stack := .ref sa :: .ref T.heap.size :: .ref T.heap.size :: rest, locked := none }) rfl hsize rfl rfl (rest := rest) rfl
    (by rw [hb]; exact d6) (by rw [hb]; exact d9) hout hRframes (by simp only [List.map_cons, List.sum_cons, hcat]; omega) hlocks
  obtain ⟨f1, f2⟩ := vx_frame hsame
  rw [hhp] at f1 f2
  have hWs : s.WarmedH U.vm := State.WarmedH.trans hW0 hW
  have hcl : s.vm.findClass cls = some ce.cls := by
    have h9 := hO.cls
    rw [hvm] at h9
    exact h9
  have hall : s.sameButNew ({ U with vm := s.vm } : State) locs mc ms := by
    subst hA
    obtain ⟨e1, e2⟩ := hsame
    rw [State.setFrames_setFrames] at e1
    have h2 : (T.setVm s.vm).sameButNew ({ U with vm := s.vm } : State) [] (0 + 1) (0 + 6) := ⟨e1, e2⟩
    have h3 := X.same.trans h2
    rw [List.append_nil] at h3
    exact h3.mono hc hs
  refine ⟨U, ?_, .threw T.heap.size, hrun, hend, Or.inr ⟨T.heap.size, rfl, cls, ce, locs, hx U hWs.alike f1 (fun q hq => f2 q hq (fun z hz => nomatch hz)), hce, hO.vm, hcl, hWs, hall, hf⟩⟩
  refine st1 _ ?_
  show Steps p.tables e below (T1.setTop { method := m, pc := pc + 3, locals := ls, stack := .ref T.heap.size :: rest, locked := none }) _
  jvm_step X₁.here [X₁.here.top, hexec, d3', Value.category]
  exact X₁.ldcString hexec (own := own) (text := text) (index := is) (a := sa) hown' hstr'.1 hstr'.2
    (g := { method := m, pc := pc + 4, locals := ls, stack := .ref T.heap.size :: .ref T.heap.size :: rest, locked := none }) rfl d4' _ hsteps
/-- 'throw new E("text")', the text by a wide index -/
theorem vx_throwSW {cc : ByteArray} {pc : Nat} (hexec : p.tables.exec = Jvm.exec) (hb : c.code = cc) (hl : l.stackTraces = false) {own cls text : String} {names : List String} {ik is ic mc ms sa : Nat} {A : Nat → Prop}
    (hown : s.vm.findClass own = some m.cls) (hcls : Bundle.fit cls = true) (hnames : ∀ n ∈ names, Bundle.fit n = true)
    (hk : (Cond.classLink own ik cls).before args s = true) (hini : (Cond.initialized cls).before args s = true) (hstr : vk_R own is text sa s) (hat : ∀ w ∈ vx_atS own ic cls names, w.before args s = true)
    (hgood : ∀ w ∈ Cond.classLink own ik cls :: Cond.initialized cls :: vx_atS own ic cls names, vx_ot w = true)
    (hU : vx_Zq Bundle.tN "UNASSIGNED_STACK" Bundle.steD A s s.heap) (hN : vx_Zq Bundle.tN "SUPPRESSED_SENTINEL" Bundle.listD A s s.heap) (hS : va_S A s.heap H locs) (hsize : ls.size = c.maxLocals)
    (d0 : decode cc pc = .ok (.new ik, 3)) (d3 : decode cc (pc + 3) = .ok (.dup, 1)) (d4 : decode cc (pc + 4) = .ok (.ldc_w is, 3)) (d7 : decode cc (pc + 7) = .ok (.invokespecial ic, 3)) (d10 : decode cc (pc + 10) = .ok (.athrow, 1))
    (hout : ∀ x ∈ c.exceptionTable.toList, covers x (pc + 10) = false)
    (hRframes : names.length + 3 < R.frames) (hRlocals : (rest.map fun v => v.category).sum + (13 * (names.length + 1) + 43) ≤ R.locals) (hRcells : cells + 1 ≤ R.cells) (hRslots : slots + 6 ≤ R.slots) (hlocks : meth.locks = false)
    (hx : ∀ t : State, s.vm.Alike t.vm → H.size ≤ t.heap.size → (∀ q : Nat, q < H.size → t.heap[q]? = H[q]?) → XC cls s t)
    (hf : ∀ z ∈ locs, free z.base) (hc : cells + 1 ≤ mc) (hs : slots + 6 ≤ ms) :
    W p l e R s m args below meth c H locs cells slots (vx_MQ below Qc XC args s mc ms free) (F0 m pc ls rest) := by
  intro T hT X
  have htr : e.platform.stackTraces = false := (show e.platform.stackTraces = l.stackTraces by rw [X.admits.platform]).trans hl
  have Y := vx_rebase X (R' := { frames := R.frames, locals := R.locals, cells := 1, slots := 6 }) (Nat.le_refl _) (Nat.le_refl _) hRcells hRslots
  obtain ⟨s', hA⟩ : ∃ z, z = (T.setVm s.vm).setFrames (.invoking m args :: below) := ⟨_, rfl⟩
  rw [← hA] at Y
  have hvm : s'.vm = s.vm := by rw [hA]; rfl
  have hhp : s'.heap = H := by rw [hA]; exact hT
  have hW0 : s.WarmedH s'.vm := by rw [hvm]; exact State.WarmedH.refl s
  have hat' : ∀ w ∈ vx_atS own ic cls names, w.before args s' = true := fun w hw => vx_ot_at hW0 hvm.symm (hgood w (List.mem_cons_of_mem _ (List.mem_cons_of_mem _ hw))) (hat w hw)
  have hk' : (Cond.classLink own ik cls).before args s' = true := vx_ot_at hW0 hvm.symm (hgood _ List.mem_cons_self) hk
  have hini' : (Cond.initialized cls).before args s' = true := vx_ot_at hW0 hvm.symm (hgood _ (List.mem_cons_of_mem _ List.mem_cons_self)) hini
  have hU' : vx_Zq Bundle.tN "UNASSIGNED_STACK" Bundle.steD A s' s'.heap := by rw [hhp]; exact vx_Zq.moved hW0.alike (hU.kept hS.2.1)
  have hN' : vx_Zq Bundle.tN "SUPPRESSED_SENTINEL" Bundle.listD A s' s'.heap := by rw [hhp]; exact vx_Zq.moved hW0.alike (hN.kept hS.2.1)
  have h : ∀ w ∈ Bundle.ownAtoms own ic cls names, w.before args s' = true := vx_own hat' (vx_isRefq hU'.1) (vx_isRefq hN'.1) hU'.2.word hN'.2.word
  have hown' : s'.vm.findClass own = some m.cls := by rw [hvm]; exact hown
  have hins : (Cond.instantiable cls 6).before args s' = true := h _ (by simp [Bundle.ownAtoms])
  obtain ⟨vm₁, cX, kX, hfX, hkX, -, -, X₁, st1⟩ := Y.newCold hexec (own := own) (C := cls) (index := ik) (n := 6) hown' hk' hins hini'
    (g := F0 m pc ls rest) rfl (by rw [hb]; exact d0) (Nat.le_refl _) (Nat.le_refl _)
  generalize hT1 : (T.setVm vm₁).pushCell { cls := cX, slots := kX.instanceTypes.map defaultValue, vm := .none } = T1 at X₁ st1
  have hcat : (Value.ref T.heap.size).category = 1 := rfl
  have hcellA : T1.heap[T.heap.size]? = some (freshCell cX kX) := by rw [← hT1]; exact State.heap_pushCell_size _ _
  have d3' : decode c.code (pc + 3) = .ok (.dup, 1) := by rw [hb]; exact d3
  have d4' : decode c.code (pc + 4) = .ok (.ldc_w is, 3) := by rw [hb]; exact d4
  have hstr' : vk_R own is text sa s' := vk_R.warm hW0 hstr
  obtain ⟨U, hsteps, hrun, hend, hW, hsame, ce, hce, hO⟩ := X₁.ctorThrowS hexec htr (own := own) (cls := cls) (names := names) (ic := ic) hown' hcls hnames h (fun x hx => nomatch hx) hfX hkX hcellA (by rw [hhp, hT]; exact Nat.le_refl _) (msg := .ref sa) rfl
    (g := { method := m, pc := pc + 7, locals := ls, stack := .ref sa :: .ref T.heap.size :: .ref T.heap.size :: rest, locked := none }) rfl hsize rfl rfl (rest := rest) rfl
    (by rw [hb]; exact d7) (by rw [hb]; exact d10) hout hRframes (by simp only [List.map_cons, List.sum_cons, hcat]; omega) hlocks
  obtain ⟨f1, f2⟩ := vx_frame hsame
  rw [hhp] at f1 f2
  have hWs : s.WarmedH U.vm := State.WarmedH.trans hW0 hW
  have hcl : s.vm.findClass cls = some ce.cls := by
    have h9 := hO.cls
    rw [hvm] at h9
    exact h9
  have hall : s.sameButNew ({ U with vm := s.vm } : State) locs mc ms := by
    subst hA
    obtain ⟨e1, e2⟩ := hsame
    rw [State.setFrames_setFrames] at e1
    have h2 : (T.setVm s.vm).sameButNew ({ U with vm := s.vm } : State) [] (0 + 1) (0 + 6) := ⟨e1, e2⟩
    have h3 := X.same.trans h2
    rw [List.append_nil] at h3
    exact h3.mono hc hs
  refine ⟨U, ?_, .threw T.heap.size, hrun, hend, Or.inr ⟨T.heap.size, rfl, cls, ce, locs, hx U hWs.alike f1 (fun q hq => f2 q hq (fun z hz => nomatch hz)), hce, hO.vm, hcl, hWs, hall, hf⟩⟩
  refine st1 _ ?_
  show Steps p.tables e below (T1.setTop { method := m, pc := pc + 3, locals := ls, stack := .ref T.heap.size :: rest, locked := none }) _
  jvm_step X₁.here [X₁.here.top, hexec, d3', Value.category]
  exact X₁.ldcStringW hexec (own := own) (text := text) (index := is) (a := sa) hown' hstr'.1 hstr'.2
    (g := { method := m, pc := pc + 4, locals := ls, stack := .ref T.heap.size :: .ref T.heap.size :: rest, locked := none }) rfl d4' _ hsteps
end Ends
section Bodies
variable {l : Launch}
theorem vx_ofW {y : MethodName} {ws ws' : List Cond} {rm : Room} {Pc : Array Value → State → Prop} {Qc : Array Value → State → Outcome → State → Prop} {XC : String → State → State → Prop} {mc ms : Nat} {free : Addr → Prop} {cc : ByteArray} {maxL : Nat} {ret : Option FieldType}
    (hy : plainName y.cls = true) (hw : ws = Cond.code y cc maxL ret :: ws')
    (body : ∀ p e s m args below meth c s₁, BodyLoose p l y (headSpec ws rm) cc maxL ret e s m args below meth c s₁ → c.maxLocals = maxL → (∀ x ∈ c.exceptionTable.toList, False) → Pc args s →
      W p l e (headSpec ws rm).room s m args below meth c s.heap [] 0 0 (vx_MQ below Qc XC args s mc ms free) (entryFrame m args maxL)) : vx_Met l y ws rm Pc Qc XC mc ms free := by
  refine MetFree.of_bodyS (code := cc) (maxLocals := maxL) (ret := ret) hy ?_ ?_
  · intro args s m h hn
    obtain ⟨meth, c, h1, h2, h3, h4, h5, h6, -, -⟩ := Cond.code_spec hn (atoms_spec (ws := ws) h _ (by rw [hw]; exact List.mem_cons_self))
    exact ⟨meth, c, h1, h2, h3, h4, h5, h6⟩
  · intro p e s m args below meth c s₁ B hml hP _
    have hh0 : s₁.heap = s.heap := by rw [B.state]; rfl
    have ht : ∀ x ∈ c.exceptionTable.toList, False := by
      obtain ⟨meth9, c9, h1, h2, -, -, -, -, h7, -⟩ := Cond.code_spec B.named (atoms_spec (ws := ws) B.pre _ (by rw [hw]; exact List.mem_cons_self))
      cases Option.some.inj (h1.symm.trans B.method)
      cases Option.some.inj (h2.symm.trans (Stand.of_body B).code)
      intro x hx
      rw [Array.isEmpty_iff.mp h7] at hx
      cases hx
    obtain ⟨t, a1, o, b1, b2, b3⟩ := body p e s m args below meth c s₁ B hml ht hP s₁ hh0 (Stand.of_body B)
    exact ⟨t, o, a1, b1, b2, b3⟩
/-- the table of a body with handlers -/
theorem vx_table {p : Program} {x y : MethodName} {S : Spec} {cc bytes : ByteArray} {maxL maxL' : Nat} {ret ret' : Option FieldType} {e : Env} {s s₁ : State} {m : MethodId} {args : Array Value} {below : List Frame} {meth : Method} {c : Code} {hh : List (Nat × Nat × Nat × Nat)}
    (B : BodyLoose p l y S cc maxL ret e s m args below meth c s₁) (h : (Cond.codeWith y bytes maxL' ret' hh).before args s = true) : c.exceptionTable.toList = tableOf hh := by
  obtain ⟨m9, meth9, c9, hn9, h1, h2, -, -, h6, -⟩ := Cond.codeWith_spec h
  cases Option.some.inj (hn9.symm.trans B.named)
  cases Option.some.inj (h1.symm.trans B.method)
  cases Option.some.inj (h2.symm.trans (Stand.of_body B).code)
  rw [← h6, table_eq]
end Bodies
end VXA
/-! ===== END ===== -/
/-! ===== BEGIN a static call of a method with an exception table ===== -/
section VXS
variable {p : Program} {l : Launch} {e : Env} {R : Room} {s : State} {m : MethodId} {args : Array Value} {below : List Frame} {meth : Method} {c : Code} {T : State} {H : Heap} {locs : List Loc} {cells slots : Nat}
abbrev vx_CSW (R : Room) (s : State) (args : Array Value) (own : String) (index : Nat) (y : MethodName) (bytes : ByteArray) (maxL : Nat) (ret : Option FieldType) (hh : List (Nat × Nat × Nat × Nat)) (ws : List Cond) (rm : Room) (mc ms n : Nat) : Prop :=
  (rm.cells = mc ∧ rm.slots = ms ∧ rm.frames + 1 ≤ R.frames ∧ 8 + (maxL + 11) + rm.locals ≤ R.locals ∧ (∀ w ∈ ws, ∀ (a' : Array Value) (U : State), s.WarmedH U.vm → w.before a' U = true) ∧ Cond.codeWith y bytes maxL ret hh ∈ ws) ∧
  (Cond.codeWith y bytes maxL ret hh).before args s = true ∧ (Cond.initialized y.cls).before args s = true ∧ (y.cls ≠ "java/lang/invoke/MethodHandle" ∧ y.cls ≠ "java/lang/invoke/VarHandle") ∧
  (∀ sig, parseMethodDescriptor y.desc = some sig → n = sig.parameters.length) ∧ (Cond.methodLink own index y).before args s = true ∧ (Cond.static y).before args s = true
theorem vx_cwSW {own : String} {index maxL mc ms : Nat} {y : MethodName} {bytes : ByteArray} {ret : Option FieldType} {hh : List (Nat × Nat × Nat × Nat)} {Ts ws ws' : List Cond} {rm : Room} (n : Nat) (ht : ∀ w ∈ Ts, w.before args s = true) (hT : GoodIn Ts (va_wsS own index y ws)) (hw : ws = Cond.codeWith y bytes maxL ret hh :: ws') (hrc : rm.cells = mc) (hrs : rm.slots = ms)
    (hd : y.cls ≠ "java/lang/invoke/MethodHandle" ∧ y.cls ≠ "java/lang/invoke/VarHandle" ∧ (parseMethodDescriptor y.desc).map (fun d => d.parameters.length) = some n) (hR : rm.frames + 1 ≤ R.frames ∧ 8 + (maxL + 11) + rm.locals ≤ R.locals) :
    vx_CSW R s args own index y bytes maxL ret hh ws rm mc ms n := by
  have ok : ∀ w ∈ va_wsS own index y ws, w.before args s = true := fun w h => ht w (hT w h).1
  have hG : GoodIn Ts ws := fun w h => hT w (by unfold va_wsS; exact List.mem_append_right _ h)
  have hc : Cond.codeWith y bytes maxL ret hh ∈ ws := by rw [hw]; exact List.mem_cons_self
  refine ⟨⟨hrc, hrs, hR.1, hR.2, pay_in ht hG, hc⟩, ht _ (hG _ hc).1, ok _ (by simp [va_wsS]), ⟨hd.1, hd.2.1⟩, fun sig h => ?_, ok _ (by simp [va_wsS]), ok _ (by simp [va_wsS])⟩
  have h2 := hd.2.2
  rw [h] at h2
  exact (Option.some.inj h2).symm
theorem vx_callSW (X : Stand p l e R s m args below meth c T locs cells slots) (hexec : p.tables.exec = Jvm.exec) {own : String} {index : Nat} {y : MethodName} {bytes : ByteArray} {maxL : Nat} {ret : Option FieldType} {hh : List (Nat × Nat × Nat × Nat)}
    (hown : s.vm.findClass own = some m.cls) (hlink : (Cond.methodLink own index y).before args s = true) (hstat : (Cond.static y).before args s = true) (hinit : (Cond.initialized y.cls).before args s = true)
    (hcode : (Cond.codeWith y bytes maxL ret hh).before args s = true) (hy : y.cls ≠ "java/lang/invoke/MethodHandle" ∧ y.cls ≠ "java/lang/invoke/VarHandle")
    {W9 : Nat} {Pre : Pt → Array Value → Prop} {Post : Pt → Array Value → Option Value → Pt → Prop} (hK : Back l R p e below s args y 3 W9 Pre Post)
    {g : JFrame} (hg : g.method = m) (hsize : g.locals.size = c.maxLocals) {argsL rest : List Value} (hlen : ∀ sig, parseMethodDescriptor y.desc = some sig → argsL.length = sig.parameters.length)
    (hstack : g.stack = argsL.reverse ++ rest) (hW : 2 * g.monitorRoom + (rest.map fun v => v.category).sum ≤ W9) (hdg : decode c.code g.pc = .ok (.invokestatic index, 3))
    (hpre : ∀ vm₁, s.WarmedH vm₁ → Pre ⟨T.setVm vm₁, locs, cells, slots⟩ argsL.toArray) :
    ∃ (v : Option Value) (vm₁ : Vm) (B : Pt), s.WarmedH vm₁ ∧ Stand p l e R s m args below meth c B.U B.locs B.cells B.slots ∧ Post ⟨T.setVm vm₁, locs, cells, slots⟩ argsL.toArray v B ∧
      ∀ target, Steps p.tables e below (B.U.setTop { g with pc := g.pc + 3, stack := v.toList ++ rest }) target → Steps p.tables e below (T.setTop g) target := by
  obtain ⟨mk, methM, cM, hnamed, hmethM, -, -, -, -, -, -, hsigM⟩ := Cond.codeWith_spec hcode
  have hstatic : methM.isStatic = true := Cond.static_spec hnamed hmethM hstat
  obtain ⟨kP, hkP, -⟩ := className_of_methodNamed hnamed
  have hinitP : kP.init = .initialized := Cond.initialized_spec (findClass_of_methodNamed hnamed) hkP hinit
  obtain ⟨vm₁, X₁, hstep₁⟩ := X.invokestatic hexec hown hlink hnamed hmethM hstatic hkP hinitP hy (g := g) hg (argsL := argsL) (rest := rest) (hlen _ hsigM) hstack hdg
  obtain ⟨v, B, X', hpost, hsteps⟩ := hK m meth c ⟨T.setVm vm₁, locs, cells, slots⟩ { g with stack := rest } (.invokestatic index) mk argsL.toArray X₁ hg hsize hdg hW (X₁.named hnamed) (hpre vm₁ X₁.warmed)
  exact ⟨v, vm₁, B, X₁.warmed, X', hpost, fun target h => hstep₁ _ fun acts => by rw [doInvoke_state]; exact hsteps.trans h⟩
theorem vx_runSW {y : MethodName} {bytes cc : ByteArray} {maxL nL mc ms n index : Nat} {ret : Option FieldType} {hh : List (Nat × Nat × Nat × Nat)} {ws : List Cond} {rm : Room} {Pc : Array Value → State → Prop} {Qc : Array Value → State → Outcome → State → Prop} {free : Addr → Prop} {Ts : List Cond} {own : String} {As rest : List Value} {g : JFrame}
    (S : CallFix p m c cc nL s args Ts own) (hM : Met l y ws rm Pc Qc mc ms free) (cw : vx_CSW R s args own index y bytes maxL ret hh ws rm mc ms n) (hp : PreS s H Pc As)
    (hg : g.method = m) (hn : As.length = n) (hsize : g.locals.size = nL) (hstack : g.stack = As.reverse ++ rest) (hW : 2 * g.monitorRoom + (rest.map fun v => v.category).sum ≤ 8) (hdg : decode cc g.pc = .ok (.invokestatic index, 3)) (hf : cells + mc ≤ R.cells ∧ slots + ms ≤ R.slots) :
    va_Run p l e R s m args below meth c H locs cells slots mc ms g rest (Qc As.toArray) (free) := by
  obtain ⟨⟨hrc, hrs, hfr, hlo, hws, hcw⟩, hcode, hini, hy, hlen, hl, hstt⟩ := cw
  have hK : Back l R p e below s args y 3 8 (PreOf R mc ms Pc) (PostOf Qc mc ms free) := va_backW (hh := hh) (bytes := bytes) (maxL := maxL) (ret := ret) hM hp.1 hrc hrs hfr hlo hws hcw (fun a' U hW => word_at hW (Or.inl (by first | rfl | simp [Cond.onTables, Cond.keeps, Cond.steady])) hini)
  obtain ⟨hx, hb, hml, ho, -⟩ := S
  intro T hT X
  obtain ⟨v, vm₁, ⟨U', l2, c2, s2⟩, hW₁, X', ⟨g', mk, t, L, e1, e2, hq, h1, hL, h2, h3⟩, st⟩ := vx_callSW X hx (hh := hh) (bytes := bytes) (maxL := maxL) (ret := ret) ho hl hstt hini hcode hy hK hg (hsize.trans hml.symm) (argsL := As) (rest := rest) (fun sig h => hn.trans (hlen sig h)) hstack hW (by rw [hb]; exact hdg)
    (fun vm₁ hW₁ => ⟨hf.1, hf.2, hp.2 (T.setVm vm₁) hT hW₁⟩)
  dsimp only [Pt.U, Pt.locs, Pt.cells, Pt.slots] at X' e1 e2 h1 h2 h3 st
  subst h1; subst h2; subst h3
  exact ⟨v, (T.setVm vm₁).calling g' mk As.toArray, t, U', L, hT, X', hL, e1, e2, hq, st⟩
/-- not caught here, past rows that name other classes: it goes on to the caller -/
theorem vx_outP {p : Program} {l : Launch} {e : Env} {R : Room} {s : State} {m : MethodId} {args : Array Value} {below : List Frame} {meth : Method} {c : Code} {H : Heap} {locs : List Loc} {cells slots : Nat} {free : Addr → Prop} {ls : Array Slot} {rest : List Value} {Qc : Array Value → State → Outcome → State → Prop} {XC : String → State → State → Prop}
    {pc : Nat} {own E : String} {ce : Cell} {q : Addr} {mc ms : Nat} (hown : s.vm.findClass own = some m.cls) (hlocks : meth.locks = false)
    (hpass : ∀ z ∈ c.exceptionTable.toList, covers z pc = false ∨ (z.catchType ≠ 0 ∧ ∃ nm : String, (Cond.classLink own z.catchType nm).before args s = true ∧ va_Nc E nm s)) (hcell : H[q]? = some ce) (hv : ce.vm = .none) (hcl : s.vm.findClass E = some ce.cls)
    (hx : ∀ t : State, t.heap = H → s.vm.Alike t.vm → XC E s t) (hf : ∀ z ∈ locs, free z.base) (hc : cells ≤ mc) (hs : slots ≤ ms) :
    vx_W p l e R s m args below meth c H locs cells slots (vx_MQ below Qc XC args s mc ms free) (F0 m pc ls rest) q := by
  intro T hT X
  have hpl : e.platform.magicAccessors = ({} : Platform).magicAccessors := by rw [X.admits.platform]
  obtain ⟨vm', hW', X', st⟩ := X.outThrough hlocks q (g := F0 m pc ls rest) rfl rfl rfl (cell := ce) (by rw [hT]; exact hcell) (by rw [hv]; rfl)
    (by obtain ⟨k9, h9, -⟩ := Vm.findClass_spec hcl; exact ⟨k9, h9⟩) (fun z hz => by
      rcases hpass z hz with h | ⟨hz0, nm, hl1, hn1⟩
      · exact Or.inl h
      · obtain ⟨c6, hc6, hcl6⟩ := Cond.classLink_spec hown hl1 e.platform hpl
        obtain ⟨a8, b8, h1, h2, h3⟩ := hn1
        cases Option.some.inj (h1.symm.trans hcl)
        cases Option.some.inj (h2.symm.trans hc6)
        exact Or.inr ⟨hz0, _, hcl6, h3⟩)
  obtain ⟨g₀, hfr⟩ := X'.frames_eq
  have hcell9 : ((T.setVm vm').setFrames (.throwing q :: below)).heap[q]? = some ce := by
    show T.heap[q]? = some ce
    rw [hT]; exact hcell
  have hend : Ended ((T.setVm vm').setFrames (.throwing q :: below)) below (.threw q) := State.frames_setFrames _ (State.cur_lt_of_frames hfr)
  refine ⟨(T.setVm vm').setFrames (.throwing q :: below), ?_, .threw q, X'.here.running, hend, Or.inr ⟨q, rfl, E, ce, locs, hx _ hT (X'.ends _).1.alike, hcell9, hv, hcl, (X'.ends _).1, (X'.ends _).2.mono hc hs, hf⟩⟩
  rw [X.pushThrowing_eq]
  exact st
/-- a thing of a world lies in the heap -/
theorem vx_lt {D : va_G} {cl : List vw_C} {ws : va_W} {H1 : Heap} (h : va_P D cl ws H1) {k : Nat} {q : Nat × va_E} (hk : ws[k]? = some q) : q.1 < H1.size := (h k q hk).lt
end VXS
/-! ===== END ===== -/
/-! ===== BEGIN methods with a table of their own: called by a name, returning or throwing ===== -/
section VXH
/-! vx_backW, vx_callVX, vx_callSX, vx_callVW, vx_runVW, vx_runVX, vx_runSX, vx_ofWH follow the same proofs as their sisters above (Free/Laws.lean, Shelf42/LK1.lean); vx_outP calls Shelf42/NT130.lean (outThrough). -/
section
variable {l : Launch} {R : Room} {p : Program} {e : Env} {below : List Frame} {s : State} {sargs : Array Value} {y : MethodName} {len W9 : Nat}
theorem vx_backW {ws : List Cond} {rm : Room} {Pc : Array Value → State → Prop} {Qc : Array Value → State → Outcome → State → Prop} {XC : String → State → State → Prop} {mc ms : Nat} {free : Addr → Prop} {bytes : ByteArray} {maxL : Nat} {ret : Option FieldType} {hh : List (Nat × Nat × Nat × Nat)}
    (hM : vx_Met l y ws rm Pc Qc XC mc ms free) (hblind : FrameBlind Pc) (hrc : rm.cells = mc) (hrs : rm.slots = ms)
    (hframes : rm.frames + 1 ≤ R.frames) (hlocals : W9 + (maxL + 11) + rm.locals ≤ R.locals)
    (hws : ∀ w ∈ ws, ∀ a' U, s.WarmedH U.vm → w.before a' U = true) (hcode : Cond.codeWith y bytes maxL ret hh ∈ ws) (hinit : ∀ a' U, s.WarmedH U.vm → (Cond.initialized y.cls).before a' U = true) :
    vx_Back l R p e below s sargs y len W9 (PreOf R mc ms Pc) (PostOf Qc mc ms free) (vx_Post XC mc ms free) := by
  intro m meth c A g ig mk a X hg hsize hdg hW hn hp
  have h1 : (headSpec ws rm).pre.before a A.U = true := atoms_intro fun w hw => hws w hw _ _ X.warmed
  have h2 : (Cond.codeWith y bytes maxL ret hh).before a A.U = true := hws _ hcode _ _ X.warmed
  have h3 : (Cond.initialized y.cls).before a A.U = true := hinit _ _ X.warmed
  have h4 : A.cells + (headSpec ws rm).room.cells ≤ R.cells := by rw [show (headSpec ws rm).room.cells = mc from hrc]; exact hp.1
  have h5 : A.slots + (headSpec ws rm).room.slots ≤ R.slots := by rw [show (headSpec ws rm).room.slots = ms from hrs]; exact hp.2.1
  have hPc : Pc a (A.U.calling g mk a) := hblind _ _ _ _ hp.2.2
  obtain ⟨U, Ls, c0, s0⟩ := A
  dsimp only [Pt.U, Pt.locs, Pt.cells, Pt.slots] at h1 h2 h3 h4 h5 X hn hPc ⊢
  obtain ⟨m9, methY, cY, hn9, hmY, hcY, -, hlY, -⟩ := Cond.codeWith_spec h2
  cases Option.some.inj (hn9.symm.trans hn)
  obtain ⟨kY, hkY, -⟩ := className_of_methodNamed hn
  have hinitY : kY.init = .initialized := Cond.initialized_spec (findClass_of_methodNamed hn) hkY h3
  have h : At U g.method c below := by rw [hg]; exact X.here
  have hlocals9 : W9 + (maxL + 11) + (headSpec ws rm).room.locals ≤ R.locals := hlocals
  have happ : (headSpec ws rm).appliesLoose y e.platform (U.calling g mk a) = true :=
    Spec.appliesLoose_calling (g := g) h hdg hn hkY hinitY
      (X.room_calling (g := g) (R' := (headSpec ws rm).room) hsize hmY hcY hframes (by rw [hlY]; omega) h4 h5) h1
  obtain ⟨mid, hmid⟩ := h.above
  have hfr : (U.setTop g).frames = (.java g :: mid) ++ below := by rw [State.frames_setTop' g h.top, hmid]; rfl
  obtain ⟨o, s₂, hsteps, -, hend, hq⟩ := Steps.callFree hM p X.admits X.cas X.clock (acts := []) hfr happ hPc trivial
  have hq' : vx_Q Qc XC mc ms free a (U.calling g mk a) o s₂ := hq
  rw [State.frames_setTop' g h.top] at hend
  obtain ⟨g₀, hg0⟩ := Option.isSome_iff_exists.mp h.top
  obtain ⟨r, hr⟩ := State.topJava?_eq_some.mp hg0
  have hr' : (({ U with heap := s₂.heap, slotsUsed := s₂.slotsUsed } : State).setVm s₂.vm).frames = .java g₀ :: r := hr
  rcases hq' with ⟨hqc, L, hfe, hL⟩ | ⟨q, rfl, E, ce, L, hx, hce, hcv, hcl, hW₂, hsm, hL⟩
  · obtain ⟨⟨v, rfl⟩, hW₂, e2, q2, q3, q4, q5, q6⟩ := id hfe
    have e3 : s₂ = ({ (U.calling g mk a).setFrames s₂.frames with heap := s₂.heap, slotsUsed := s₂.slotsUsed } : State).setVm s₂.vm := by
      have : s₂ = ({ s₂ with vm := (U.calling g mk a).vm } : State).setVm s₂.vm := rfl
      rw [e2] at this
      exact this
    obtain ⟨c₂, i₂, len₂, hc₂, hd₂, hf₂⟩ := hend
    have hW' : U.WarmedH s₂.vm := hW₂
    have hcc : c₂ = c := by
      have h1 : s₂.code? g.method = U.code? g.method := by
        rw [State.code?_eq, State.code?_eq, hW'.alike.method?]
      exact Option.some.inj (hc₂.symm.trans (h1.trans h.code))
    subst hcc
    have hlen : len₂ = len := by rw [hdg] at hd₂; cases hd₂; rfl
    subst hlen
    have hs₂ : s₂ = (({ U with heap := s₂.heap, slotsUsed := s₂.slotsUsed } : State).setVm s₂.vm).setTop { g with pc := g.pc + len₂, stack := v.toList ++ g.stack } := by
      refine e3.trans ?_
      rw [hf₂, State.calling_eq h.top, State.setFrames_setFrames, State.setTop_of_frames _ hr', hr]
      rfl
    have hsame : U.sameButNew ({ U with heap := s₂.heap, slotsUsed := s₂.slotsUsed } : State) L mc ms := by
      refine ⟨?_, q2, q3, q4, q5, q6⟩
      obtain ⟨t, ht, -⟩ := State.frames_cons hr
      show ({ U with heap := s₂.heap, slotsUsed := s₂.slotsUsed } : State) = { U.setFrames U.frames with heap := s₂.heap, slotsUsed := s₂.slotsUsed }
      rw [State.setFrames_self ht]
    subst hg
    refine Or.inl ⟨v, ⟨(({ U with heap := s₂.heap, slotsUsed := s₂.slotsUsed } : State).setVm s₂.vm), Ls ++ L, c0 + mc, s0 + ms⟩,
      ⟨X.admits, X.cas, X.clock, X.frames, X.room, X.hears, X.method, X.code, (X.here.setHeapUsed s₂.heap s₂.slotsUsed).setVm hW'.alike, X.tail, State.WarmedH.trans X.warmed hW', X.limits, X.bytes, X.same.trans (hsame.setVm s.vm)⟩,
      ⟨g, mk, s₂, L, rfl, rfl, hqc, rfl, hL, rfl, rfl⟩, ?_⟩
    show Steps p.tables e below _ ((({ U with heap := s₂.heap, slotsUsed := s₂.slotsUsed } : State).setVm s₂.vm).setTop { g with pc := g.pc + len₂, stack := v.toList ++ g.stack })
    rw [← hs₂]
    exact hsteps
  · obtain ⟨e2, q2, q3, q4, q5, q6⟩ := id hsm
    have e3 : s₂ = ({ (U.calling g mk a).setFrames s₂.frames with heap := s₂.heap, slotsUsed := s₂.slotsUsed } : State).setVm s₂.vm := by
      have : s₂ = ({ s₂ with vm := (U.calling g mk a).vm } : State).setVm s₂.vm := rfl
      rw [e2] at this
      exact this
    have hf₂ : s₂.frames = .throwing q :: .java g :: U.frames.tail := hend
    have hW' : U.WarmedH s₂.vm := hW₂
    have hs₂ : s₂ = ((({ U with heap := s₂.heap, slotsUsed := s₂.slotsUsed } : State).setVm s₂.vm).setTop g).pushFrame (.throwing q) := by
      refine e3.trans ?_
      rw [hf₂, State.calling_eq h.top, State.setFrames_setFrames, State.pushFrame, State.frames_setTop _ hr', State.setTop_of_frames _ hr', State.setFrames_setFrames, hr]
      rfl
    have hsame : U.sameButNew ({ U with heap := s₂.heap, slotsUsed := s₂.slotsUsed } : State) L mc ms := by
      refine ⟨?_, q2, q3, q4, q5, q6⟩
      obtain ⟨t, ht, -⟩ := State.frames_cons hr
      show ({ U with heap := s₂.heap, slotsUsed := s₂.slotsUsed } : State) = { U.setFrames U.frames with heap := s₂.heap, slotsUsed := s₂.slotsUsed }
      rw [State.setFrames_self ht]
    subst hg
    refine Or.inr ⟨q, ⟨(({ U with heap := s₂.heap, slotsUsed := s₂.slotsUsed } : State).setVm s₂.vm), Ls ++ L, c0 + mc, s0 + ms⟩,
      ⟨X.admits, X.cas, X.clock, X.frames, X.room, X.hears, X.method, X.code, (X.here.setHeapUsed s₂.heap s₂.slotsUsed).setVm hW'.alike, X.tail, State.WarmedH.trans X.warmed hW', X.limits, X.bytes, X.same.trans (hsame.setVm s.vm)⟩,
      ⟨g, mk, s₂, L, E, ce, rfl, rfl, hx, hce, hcv, hcl, rfl, hL, rfl, rfl⟩, ?_⟩
    show Steps p.tables e below _ (((({ U with heap := s₂.heap, slotsUsed := s₂.slotsUsed } : State).setVm s₂.vm).setTop g).pushFrame (.throwing q))
    rw [← hs₂]
    exact hsteps
end
variable {p : Program} {l : Launch} {e : Env} {R : Room} {s : State} {m : MethodId} {args : Array Value} {below : List Frame} {meth : Method} {c : Code} {T : State} {H : Heap} {locs : List Loc} {cells slots : Nat}
theorem vx_callVX (X : Stand p l e R s m args below meth c T locs cells slots) (hexec : p.tables.exec = Jvm.exec) {own C : String} {index : Nat} {y : MethodName} {bytes : ByteArray} {maxL : Nat} {ret : Option FieldType} {hh : List (Nat × Nat × Nat × Nat)}
    (hown : s.vm.findClass own = some m.cls) (hlink : (Cond.methodLink own index y).before args s = true) (hinst : (Cond.instanceMethod y).before args s = true) (hsel : (Cond.selects C y y).before args s = true)
    (hcode : (Cond.codeWith y bytes maxL ret hh).before args s = true) (hy : y.cls ≠ "java/lang/invoke/MethodHandle" ∧ y.cls ≠ "java/lang/invoke/VarHandle")
    {W9 : Nat} {Pre : Pt → Array Value → Prop} {Post : Pt → Array Value → Option Value → Pt → Prop} {PostX : Pt → Array Value → Addr → Pt → Prop} (hK : vx_Back l R p e below s args y 3 W9 Pre Post PostX)
    {b : Addr} {cellB : Cell} (hcell : T.heap[b]? = some cellB) (hobj : cellB.vm.isStatics = false) (hcls : s.vm.findClass C = some cellB.cls)
    {g : JFrame} (hg : g.method = m) (hsize : g.locals.size = c.maxLocals) {argsL rest : List Value} (hlen : ∀ sig, parseMethodDescriptor y.desc = some sig → argsL.length = sig.parameters.length)
    (hstack : g.stack = argsL.reverse ++ .ref b :: rest) (hW : 2 * g.monitorRoom + (rest.map fun v => v.category).sum ≤ W9) (hdg : decode c.code g.pc = .ok (.invokevirtual index, 3))
    (hpre : ∀ vm₁, s.WarmedH vm₁ → Pre ⟨T.setVm vm₁, locs, cells, slots⟩ (Value.ref b :: argsL).toArray) :
    (∃ (v : Option Value) (vm₁ : Vm) (B : Pt), s.WarmedH vm₁ ∧ Stand p l e R s m args below meth c B.U B.locs B.cells B.slots ∧ Post ⟨T.setVm vm₁, locs, cells, slots⟩ (Value.ref b :: argsL).toArray v B ∧
      ∀ target, Steps p.tables e below (B.U.setTop { g with pc := g.pc + 3, stack := v.toList ++ rest }) target → Steps p.tables e below (T.setTop g) target) ∨
    (∃ (q : Addr) (vm₁ : Vm) (B : Pt), s.WarmedH vm₁ ∧ Stand p l e R s m args below meth c B.U B.locs B.cells B.slots ∧ PostX ⟨T.setVm vm₁, locs, cells, slots⟩ (Value.ref b :: argsL).toArray q B ∧
      Steps p.tables e below (T.setTop g) ((B.U.setTop { g with stack := rest }).pushFrame (.throwing q))) := by
  obtain ⟨mk, methM, hnamed, hmethM, hstM, habM⟩ := Cond.instanceMethod_spec hinst
  obtain ⟨m8, methM', cM, hn8, hmethM', -, -, -, -, -, -, hsigM⟩ := Cond.codeWith_spec hcode
  cases Option.some.inj (hn8.symm.trans hnamed)
  cases hmethM.symm.trans hmethM'
  obtain ⟨c2, r2, m2, q1, q2, q3, q4, kP, hkP, hkPi⟩ := Cond.selects_spec hsel
  cases hcls.symm.trans q1
  cases (State.methodFound?_of_named hnamed hy).symm.trans q2
  cases hnamed.symm.trans q3
  have hselP : selectMethod e.platform s.vm cellB.cls mk = .method mk := by rw [Launch.admits_selectMethod X.admits]; exact q4
  obtain ⟨vm₁, X₁, hstep₁⟩ := X.invokevirtual hexec hown hlink hnamed hmethM hstM hkP hkPi hy (a := b) (cell := cellB) hcell
    (fun z h => by rw [h] at hobj; cases hobj) hselP hmethM habM hkP hkPi (g := g) hg (argsL := argsL) (rest := rest) (hlen _ hsigM) hstack hdg
  rcases hK m meth c ⟨T.setVm vm₁, locs, cells, slots⟩ { g with stack := rest } (.invokevirtual index) mk (Value.ref b :: argsL).toArray X₁ hg hsize hdg hW (X₁.named hnamed) (hpre vm₁ X₁.warmed) with ⟨v, B, X', hpost, hsteps⟩ | ⟨q, B, X', hpost, hsteps⟩
  · exact Or.inl ⟨v, vm₁, B, X₁.warmed, X', hpost, fun target h => hstep₁ _ fun acts => by rw [doInvoke_state]; exact hsteps.trans h⟩
  · exact Or.inr ⟨q, vm₁, B, X₁.warmed, X', hpost, hstep₁ _ fun acts => by rw [doInvoke_state]; exact hsteps⟩
theorem vx_callSX (X : Stand p l e R s m args below meth c T locs cells slots) (hexec : p.tables.exec = Jvm.exec) {own : String} {index : Nat} {y : MethodName} {bytes : ByteArray} {maxL : Nat} {ret : Option FieldType} {hh : List (Nat × Nat × Nat × Nat)}
    (hown : s.vm.findClass own = some m.cls) (hlink : (Cond.methodLink own index y).before args s = true) (hstat : (Cond.static y).before args s = true) (hinit : (Cond.initialized y.cls).before args s = true)
    (hcode : (Cond.codeWith y bytes maxL ret hh).before args s = true) (hy : y.cls ≠ "java/lang/invoke/MethodHandle" ∧ y.cls ≠ "java/lang/invoke/VarHandle")
    {W9 : Nat} {Pre : Pt → Array Value → Prop} {Post : Pt → Array Value → Option Value → Pt → Prop} {PostX : Pt → Array Value → Addr → Pt → Prop} (hK : vx_Back l R p e below s args y 3 W9 Pre Post PostX)
    {g : JFrame} (hg : g.method = m) (hsize : g.locals.size = c.maxLocals) {argsL rest : List Value} (hlen : ∀ sig, parseMethodDescriptor y.desc = some sig → argsL.length = sig.parameters.length)
    (hstack : g.stack = argsL.reverse ++ rest) (hW : 2 * g.monitorRoom + (rest.map fun v => v.category).sum ≤ W9) (hdg : decode c.code g.pc = .ok (.invokestatic index, 3))
    (hpre : ∀ vm₁, s.WarmedH vm₁ → Pre ⟨T.setVm vm₁, locs, cells, slots⟩ argsL.toArray) :
    (∃ (v : Option Value) (vm₁ : Vm) (B : Pt), s.WarmedH vm₁ ∧ Stand p l e R s m args below meth c B.U B.locs B.cells B.slots ∧ Post ⟨T.setVm vm₁, locs, cells, slots⟩ argsL.toArray v B ∧
      ∀ target, Steps p.tables e below (B.U.setTop { g with pc := g.pc + 3, stack := v.toList ++ rest }) target → Steps p.tables e below (T.setTop g) target) ∨
    (∃ (q : Addr) (vm₁ : Vm) (B : Pt), s.WarmedH vm₁ ∧ Stand p l e R s m args below meth c B.U B.locs B.cells B.slots ∧ PostX ⟨T.setVm vm₁, locs, cells, slots⟩ argsL.toArray q B ∧
      Steps p.tables e below (T.setTop g) ((B.U.setTop { g with stack := rest }).pushFrame (.throwing q))) := by
  obtain ⟨mk, methM, cM, hnamed, hmethM, -, -, -, -, -, -, hsigM⟩ := Cond.codeWith_spec hcode
  have hstatic : methM.isStatic = true := Cond.static_spec hnamed hmethM hstat
  obtain ⟨kP, hkP, -⟩ := className_of_methodNamed hnamed
  have hinitP : kP.init = .initialized := Cond.initialized_spec (findClass_of_methodNamed hnamed) hkP hinit
  obtain ⟨vm₁, X₁, hstep₁⟩ := X.invokestatic hexec hown hlink hnamed hmethM hstatic hkP hinitP hy (g := g) hg (argsL := argsL) (rest := rest) (hlen _ hsigM) hstack hdg
  rcases hK m meth c ⟨T.setVm vm₁, locs, cells, slots⟩ { g with stack := rest } (.invokestatic index) mk argsL.toArray X₁ hg hsize hdg hW (X₁.named hnamed) (hpre vm₁ X₁.warmed) with ⟨v, B, X', hpost, hsteps⟩ | ⟨q, B, X', hpost, hsteps⟩
  · exact Or.inl ⟨v, vm₁, B, X₁.warmed, X', hpost, fun target h => hstep₁ _ fun acts => by rw [doInvoke_state]; exact hsteps.trans h⟩
  · exact Or.inr ⟨q, vm₁, B, X₁.warmed, X', hpost, hstep₁ _ fun acts => by rw [doInvoke_state]; exact hsteps⟩
theorem vx_callVW (X : Stand p l e R s m args below meth c T locs cells slots) (hexec : p.tables.exec = Jvm.exec) {own C : String} {index : Nat} {y : MethodName} {bytes : ByteArray} {maxL : Nat} {ret : Option FieldType} {hh : List (Nat × Nat × Nat × Nat)}
    (hown : s.vm.findClass own = some m.cls) (hlink : (Cond.methodLink own index y).before args s = true) (hinst : (Cond.instanceMethod y).before args s = true) (hsel : (Cond.selects C y y).before args s = true)
    (hcode : (Cond.codeWith y bytes maxL ret hh).before args s = true) (hy : y.cls ≠ "java/lang/invoke/MethodHandle" ∧ y.cls ≠ "java/lang/invoke/VarHandle")
    {W9 : Nat} {Pre : Pt → Array Value → Prop} {Post : Pt → Array Value → Option Value → Pt → Prop} (hK : Back l R p e below s args y 3 W9 Pre Post)
    {b : Addr} {cellB : Cell} (hcell : T.heap[b]? = some cellB) (hobj : cellB.vm.isStatics = false) (hcls : s.vm.findClass C = some cellB.cls)
    {g : JFrame} (hg : g.method = m) (hsize : g.locals.size = c.maxLocals) {argsL rest : List Value} (hlen : ∀ sig, parseMethodDescriptor y.desc = some sig → argsL.length = sig.parameters.length)
    (hstack : g.stack = argsL.reverse ++ .ref b :: rest) (hW : 2 * g.monitorRoom + (rest.map fun v => v.category).sum ≤ W9) (hdg : decode c.code g.pc = .ok (.invokevirtual index, 3))
    (hpre : ∀ vm₁, s.WarmedH vm₁ → Pre ⟨T.setVm vm₁, locs, cells, slots⟩ (Value.ref b :: argsL).toArray) :
    ∃ (v : Option Value) (vm₁ : Vm) (B : Pt), s.WarmedH vm₁ ∧ Stand p l e R s m args below meth c B.U B.locs B.cells B.slots ∧ Post ⟨T.setVm vm₁, locs, cells, slots⟩ (Value.ref b :: argsL).toArray v B ∧
      ∀ target, Steps p.tables e below (B.U.setTop { g with pc := g.pc + 3, stack := v.toList ++ rest }) target → Steps p.tables e below (T.setTop g) target := by
  obtain ⟨mk, methM, hnamed, hmethM, hstM, habM⟩ := Cond.instanceMethod_spec hinst
  obtain ⟨m8, methM', cM, hn8, hmethM', -, -, -, -, -, -, hsigM⟩ := Cond.codeWith_spec hcode
  cases Option.some.inj (hn8.symm.trans hnamed)
  cases hmethM.symm.trans hmethM'
  obtain ⟨c2, r2, m2, q1, q2, q3, q4, kP, hkP, hkPi⟩ := Cond.selects_spec hsel
  cases hcls.symm.trans q1
  cases (State.methodFound?_of_named hnamed hy).symm.trans q2
  cases hnamed.symm.trans q3
  have hselP : selectMethod e.platform s.vm cellB.cls mk = .method mk := by rw [Launch.admits_selectMethod X.admits]; exact q4
  obtain ⟨vm₁, X₁, hstep₁⟩ := X.invokevirtual hexec hown hlink hnamed hmethM hstM hkP hkPi hy (a := b) (cell := cellB) hcell
    (fun z h => by rw [h] at hobj; cases hobj) hselP hmethM habM hkP hkPi (g := g) hg (argsL := argsL) (rest := rest) (hlen _ hsigM) hstack hdg
  obtain ⟨v, B, X', hpost, hsteps⟩ := hK m meth c ⟨T.setVm vm₁, locs, cells, slots⟩ { g with stack := rest } (.invokevirtual index) mk (Value.ref b :: argsL).toArray X₁ hg hsize hdg hW (X₁.named hnamed) (hpre vm₁ X₁.warmed)
  exact ⟨v, vm₁, B, X₁.warmed, X', hpost, fun target h => hstep₁ _ fun acts => by rw [doInvoke_state]; exact hsteps.trans h⟩
abbrev vx_CVW (R : Room) (s : State) (args : Array Value) (own C : String) (index : Nat) (y : MethodName) (bytes : ByteArray) (maxL : Nat) (ret : Option FieldType) (hh : List (Nat × Nat × Nat × Nat)) (ws : List Cond) (rm : Room) (mc ms n : Nat) : Prop :=
  (rm.cells = mc ∧ rm.slots = ms ∧ rm.frames + 1 ≤ R.frames ∧ 8 + (maxL + 11) + rm.locals ≤ R.locals ∧ (∀ w ∈ ws, ∀ (a' : Array Value) (U : State), s.WarmedH U.vm → w.before a' U = true) ∧ Cond.codeWith y bytes maxL ret hh ∈ ws) ∧
  (Cond.codeWith y bytes maxL ret hh).before args s = true ∧ (Cond.initialized y.cls).before args s = true ∧ (y.cls ≠ "java/lang/invoke/MethodHandle" ∧ y.cls ≠ "java/lang/invoke/VarHandle") ∧
  (∀ sig, parseMethodDescriptor y.desc = some sig → n = sig.parameters.length) ∧ (Cond.methodLink own index y).before args s = true ∧ (Cond.instanceMethod y).before args s = true ∧ (Cond.selects C y y).before args s = true
theorem vx_cwVW {own C : String} {index maxL mc ms : Nat} {y : MethodName} {bytes : ByteArray} {ret : Option FieldType} {hh : List (Nat × Nat × Nat × Nat)} {Ts ws ws' : List Cond} {rm : Room} (n : Nat) (ht : ∀ w ∈ Ts, w.before args s = true) (hT : GoodIn Ts (wsV own index C y ws)) (hw : ws = Cond.codeWith y bytes maxL ret hh :: ws') (hrc : rm.cells = mc) (hrs : rm.slots = ms)
    (hd : y.cls = C ∧ y.cls ≠ "java/lang/invoke/MethodHandle" ∧ y.cls ≠ "java/lang/invoke/VarHandle" ∧ (parseMethodDescriptor y.desc).map (fun d => d.parameters.length) = some n) (hR : rm.frames + 1 ≤ R.frames ∧ 8 + (maxL + 11) + rm.locals ≤ R.locals) :
    vx_CVW R s args own C index y bytes maxL ret hh ws rm mc ms n := by
  obtain ⟨hC, hd⟩ := hd
  subst hC
  have ok : ∀ w ∈ wsV own index y.cls y ws, w.before args s = true := fun w h => ht w (hT w h).1
  have hG : GoodIn Ts ws := fun w h => hT w (by unfold wsV; exact List.mem_append_right _ h)
  have hc : Cond.codeWith y bytes maxL ret hh ∈ ws := by rw [hw]; exact List.mem_cons_self
  refine ⟨⟨hrc, hrs, hR.1, hR.2, pay_in ht hG, hc⟩, ht _ (hG _ hc).1, ok _ (by simp [wsV]), ⟨hd.1, hd.2.1⟩, fun sig h => ?_, ok _ (by simp [wsV]), ok _ (by simp [wsV]), ok _ (by simp [wsV])⟩
  have h2 := hd.2.2
  rw [h] at h2
  exact (Option.some.inj h2).symm
theorem vx_runVW {y : MethodName} {bytes cc : ByteArray} {maxL nL mc ms n index : Nat} {ret : Option FieldType} {hh : List (Nat × Nat × Nat × Nat)} {ws : List Cond} {rm : Room} {Pc : Array Value → State → Prop} {Qc : Array Value → State → Outcome → State → Prop} {free : Addr → Prop} {Ts : List Cond} {own C : String} {b : Addr} {As rest : List Value} {g : JFrame}
    (S : CallFix p m c cc nL s args Ts own) (hM : Met l y ws rm Pc Qc mc ms free) (cw : vx_CVW R s args own C index y bytes maxL ret hh ws rm mc ms n) (hp : PreV s H C b Pc As)
    (hg : g.method = m) (hn : As.length = n) (hsize : g.locals.size = nL) (hstack : g.stack = As.reverse ++ .ref b :: rest) (hW : 2 * g.monitorRoom + (rest.map fun v => v.category).sum ≤ 8) (hdg : decode cc g.pc = .ok (.invokevirtual index, 3)) (hf : cells + mc ≤ R.cells ∧ slots + ms ≤ R.slots) :
    va_Run p l e R s m args below meth c H locs cells slots mc ms g rest (Qc (Value.ref b :: As).toArray) free := by
  obtain ⟨⟨hrc, hrs, hfr, hlo, hws, hcw⟩, hcode, hini, hy, hlen, hl, hin, hse⟩ := cw
  have hK : Back l R p e below s args y 3 8 (PreOf R mc ms Pc) (PostOf Qc mc ms free) := va_backW (hh := hh) (bytes := bytes) (maxL := maxL) (ret := ret) hM hp.1 hrc hrs hfr hlo hws hcw (fun a' U hW => word_at hW (Or.inl (by first | rfl | simp [Cond.onTables, Cond.keeps, Cond.steady])) hini)
  obtain ⟨hx, hb, hml, ho, -⟩ := S
  obtain ⟨-, ⟨cellB, hcB, hoB, hclB⟩, hPc⟩ := hp
  intro T hT X
  obtain ⟨v, vm₁, ⟨U', l2, c2, s2⟩, hW₁, X', ⟨g', mk, t, L, e1, e2, hq, h1, hL, h2, h3⟩, st⟩ := vx_callVW X hx (C := C) (hh := hh) (bytes := bytes) (maxL := maxL) (ret := ret) ho hl hin hse hcode hy hK (by rw [hT]; exact hcB) hoB hclB hg (hsize.trans hml.symm) (argsL := As) (rest := rest) (fun sig h => hn.trans (hlen sig h)) hstack hW (by rw [hb]; exact hdg)
    (fun vm₁ hW₁ => ⟨hf.1, hf.2, hPc (T.setVm vm₁) hT hW₁⟩)
  dsimp only [Pt.U, Pt.locs, Pt.cells, Pt.slots] at X' e1 e2 h1 h2 h3 st
  subst h1; subst h2; subst h3
  exact ⟨v, (T.setVm vm₁).calling g' mk (Value.ref b :: As).toArray, t, U', L, hT, X', hL, e1, e2, hq, st⟩
section
variable {y : MethodName} {bytes cc : ByteArray} {maxL nL mc ms n index : Nat} {ret : Option FieldType} {ws : List Cond} {rm : Room} {Pc : Array Value → State → Prop} {Qc : Array Value → State → Outcome → State → Prop} {XC : String → State → State → Prop} {free : Addr → Prop} {Ts : List Cond} {own C : String} {b : Addr} {As rest : List Value} {g : JFrame}
theorem vx_runVX {hh : List (Nat × Nat × Nat × Nat)} (S : CallFix p m c cc nL s args Ts own) (hM : vx_Met l y ws rm Pc Qc XC mc ms free) (cw : vx_CVW R s args own C index y bytes maxL ret hh ws rm mc ms n) (hp : PreV s H C b Pc As)
    (hg : g.method = m) (hn : As.length = n) (hsize : g.locals.size = nL) (hstack : g.stack = As.reverse ++ .ref b :: rest) (hW : 2 * g.monitorRoom + (rest.map fun v => v.category).sum ≤ 8) (hdg : decode cc g.pc = .ok (.invokevirtual index, 3)) (hf : cells + mc ≤ R.cells ∧ slots + ms ≤ R.slots) :
    vx_Run p l e R s m args below meth c H locs cells slots mc ms g rest (Qc (Value.ref b :: As).toArray) XC free := by
  obtain ⟨⟨hrc, hrs, hfr, hlo, hws, hcw⟩, hcode, hini, hy, hlen, hl, hin, hse⟩ := cw
  have hK : vx_Back l R p e below s args y 3 8 (PreOf R mc ms Pc) (PostOf Qc mc ms free) (vx_Post XC mc ms free) := vx_backW (hh := hh) (bytes := bytes) (maxL := maxL) (ret := ret) hM hp.1 hrc hrs hfr hlo hws hcw (fun a' U hW => word_at hW (Or.inl (by first | rfl | simp [Cond.onTables, Cond.keeps, Cond.steady])) hini)
  obtain ⟨hx, hb, hml, ho, -⟩ := S
  obtain ⟨-, ⟨cellB, hcB, hoB, hclB⟩, hPc⟩ := hp
  intro T hT X
  rcases vx_callVX X hx (C := C) (hh := hh) (bytes := bytes) (maxL := maxL) (ret := ret) ho hl hin hse hcode hy hK (by rw [hT]; exact hcB) hoB hclB hg (hsize.trans hml.symm) (argsL := As) (rest := rest) (fun sig h => hn.trans (hlen sig h)) hstack hW (by rw [hb]; exact hdg)
    (fun vm₁ hW₁ => ⟨hf.1, hf.2, hPc (T.setVm vm₁) hT hW₁⟩) with ⟨v, vm₁, ⟨U', l2, c2, s2⟩, hW₁, X', ⟨g', mk, t, L, e1, e2, hq, h1, hL, h2, h3⟩, st⟩ | ⟨q, vm₁, ⟨U', l2, c2, s2⟩, hW₁, X', ⟨g', mk, t, L, E, ce, e1, e2, hq, hce, hcv, hcl, h1, hL, h2, h3⟩, st⟩
  · dsimp only [Pt.U, Pt.locs, Pt.cells, Pt.slots] at X' e1 e2 h1 h2 h3 st
    subst h1; subst h2; subst h3
    exact Or.inl ⟨v, (T.setVm vm₁).calling g' mk (Value.ref b :: As).toArray, t, U', L, hT, X', hL, e1, e2, hq, st⟩
  · dsimp only [Pt.U, Pt.locs, Pt.cells, Pt.slots] at X' e1 e2 h1 h2 h3 st hcl
    subst h1; subst h2; subst h3
    exact Or.inr ⟨q, (T.setVm vm₁).calling g' mk (Value.ref b :: As).toArray, t, U', L, E, ce, hT, X', hL, e1, e2, hq, hce, hcv, vx_cls hW₁ hcl, st⟩
theorem vx_runSX {hh : List (Nat × Nat × Nat × Nat)} (S : CallFix p m c cc nL s args Ts own) (hM : vx_Met l y ws rm Pc Qc XC mc ms free) (cw : vx_CSW R s args own index y bytes maxL ret hh ws rm mc ms n) (hp : PreS s H Pc As)
    (hg : g.method = m) (hn : As.length = n) (hsize : g.locals.size = nL) (hstack : g.stack = As.reverse ++ rest) (hW : 2 * g.monitorRoom + (rest.map fun v => v.category).sum ≤ 8) (hdg : decode cc g.pc = .ok (.invokestatic index, 3)) (hf : cells + mc ≤ R.cells ∧ slots + ms ≤ R.slots) :
    vx_Run p l e R s m args below meth c H locs cells slots mc ms g rest (Qc As.toArray) XC free := by
  obtain ⟨⟨hrc, hrs, hfr, hlo, hws, hcw⟩, hcode, hini, hy, hlen, hl, hstt⟩ := cw
  have hK : vx_Back l R p e below s args y 3 8 (PreOf R mc ms Pc) (PostOf Qc mc ms free) (vx_Post XC mc ms free) := vx_backW (hh := hh) (bytes := bytes) (maxL := maxL) (ret := ret) hM hp.1 hrc hrs hfr hlo hws hcw (fun a' U hW => word_at hW (Or.inl (by first | rfl | simp [Cond.onTables, Cond.keeps, Cond.steady])) hini)
  obtain ⟨hx, hb, hml, ho, -⟩ := S
  intro T hT X
  rcases vx_callSX X hx (hh := hh) (bytes := bytes) (maxL := maxL) (ret := ret) ho hl hstt hini hcode hy hK hg (hsize.trans hml.symm) (argsL := As) (rest := rest) (fun sig h => hn.trans (hlen sig h)) hstack hW (by rw [hb]; exact hdg)
    (fun vm₁ hW₁ => ⟨hf.1, hf.2, hp.2 (T.setVm vm₁) hT hW₁⟩) with ⟨v, vm₁, ⟨U', l2, c2, s2⟩, hW₁, X', ⟨g', mk, t, L, e1, e2, hq, h1, hL, h2, h3⟩, st⟩ | ⟨q, vm₁, ⟨U', l2, c2, s2⟩, hW₁, X', ⟨g', mk, t, L, E, ce, e1, e2, hq, hce, hcv, hcl, h1, hL, h2, h3⟩, st⟩
  · dsimp only [Pt.U, Pt.locs, Pt.cells, Pt.slots] at X' e1 e2 h1 h2 h3 st
    subst h1; subst h2; subst h3
    exact Or.inl ⟨v, (T.setVm vm₁).calling g' mk As.toArray, t, U', L, hT, X', hL, e1, e2, hq, st⟩
  · dsimp only [Pt.U, Pt.locs, Pt.cells, Pt.slots] at X' e1 e2 h1 h2 h3 st hcl
    subst h1; subst h2; subst h3
    exact Or.inr ⟨q, (T.setVm vm₁).calling g' mk As.toArray, t, U', L, E, ce, hT, X', hL, e1, e2, hq, hce, hcv, vx_cls hW₁ hcl, st⟩
end
end VXH
theorem vx_ofWH {l : Launch} {y : MethodName} {ws ws' : List Cond} {rm : Room} {Pc : Array Value → State → Prop} {Qc : Array Value → State → Outcome → State → Prop} {XC : String → State → State → Prop} {mc ms : Nat} {free : Addr → Prop} {cc : ByteArray} {maxL : Nat} {ret : Option FieldType} {hh : List (Nat × Nat × Nat × Nat)}
    (hy : plainName y.cls = true) (hw : ws = Cond.codeWith y cc maxL ret hh :: ws')
    (body : ∀ p e s m args below meth c s₁, BodyLoose p l y (headSpec ws rm) cc maxL ret e s m args below meth c s₁ → c.maxLocals = maxL → Pc args s →
      W p l e (headSpec ws rm).room s m args below meth c s.heap [] 0 0 (vx_MQ below Qc XC args s mc ms free) (entryFrame m args maxL)) : vx_Met l y ws rm Pc Qc XC mc ms free := by
  refine MetFree.of_bodyS (code := cc) (maxLocals := maxL) (ret := ret) hy ?_ ?_
  · intro args s m h hn
    obtain ⟨m9, meth, c, hn9, h1, h2, h3, h4, -, h5, h6, -⟩ := Cond.codeWith_spec (atoms_spec (ws := ws) h _ (by rw [hw]; exact List.mem_cons_self))
    cases hn.symm.trans hn9
    exact ⟨meth, c, h1, h2, h3, h4, h5, h6⟩
  · intro p e s m args below meth c s₁ B hml hP _
    have hh0 : s₁.heap = s.heap := by rw [B.state]; rfl
    obtain ⟨t, a1, o, b1, b2, b3⟩ := body p e s m args below meth c s₁ B hml hP s₁ hh0 (Stand.of_body B)
    exact ⟨t, o, a1, b1, b2, b3⟩
/-! ===== END ===== -/
end
section
/-! ===== END ===== -/

/-! ===== BEGIN printed: names, fields, word lists, decode rows ===== -/
def RX0 : String := "PreparedPlans$Comparison"
def TX0 : u_T := fun k => match k with
  | 0 => ("PreparedPlans$Comparison", "column", "I", true)
  | 1 => ("PreparedPlans$Comparison", "sign", "C", true)
  | 2 => ("PreparedPlans$Comparison", "kind", "I", true)
  | _ => ("PreparedPlans$Comparison", "operand", "I", true)
def tyX0 : Nat → FieldType := fun k => match k with
  | 0 => .int
  | 1 => .char
  | 2 => .int
  | _ => .int
abbrev wsX00 : List Cond := u_ws RX0 TX0 4
theorem nmX0 : ∀ a, a < 4 → ∀ b, b < 4 → a ≠ b → (TX0 a).2.1 ≠ (TX0 b).2.1 := by decide +kernel
theorem tyX0_ok : ∀ k, k < 4 → parseFieldDescriptor (TX0 k).2.2.1 = some (tyX0 k) := by decide +kernel
abbrev cX0_init : ByteArray := prog_2_method_1_code
def yX0_init : MethodName := ⟨RX0, "<init>", "(ICII)V"⟩
abbrev cX0_valueWith : ByteArray := prog_2_method_2_code
def yX0_valueWith : MethodName := ⟨RX0, "valueWith", "([I)I"⟩
abbrev cX0_matches : ByteArray := prog_2_method_3_code
def yX0_matches : MethodName := ⟨RX0, "matches", "(LPreparedPlans$Data;[I)J"⟩
abbrev cX0_holds : ByteArray := prog_2_method_4_code
def yX0_holds : MethodName := ⟨RX0, "holds", "(II)Z"⟩
abbrev cX0_addSargable : ByteArray := prog_2_method_5_code
def yX0_addSargable : MethodName := ⟨RX0, "addSargable", "(Ljava/util/ArrayList;)V"⟩
def RX1 : String := "PreparedPlans$Compound"
def TX1 : u_T := fun k => match k with
  | 0 => ("PreparedPlans$Compound", "kind", "I", true)
  | _ => ("PreparedPlans$Compound", "parts", "Ljava/util/ArrayList;", true)
def tyX1 : Nat → FieldType := fun k => match k with
  | 0 => .int
  | _ => .object "java/util/ArrayList"
abbrev wsX10 : List Cond := u_ws RX1 TX1 2
theorem nmX1 : ∀ a, a < 2 → ∀ b, b < 2 → a ≠ b → (TX1 a).2.1 ≠ (TX1 b).2.1 := by decide +kernel
theorem tyX1_ok : ∀ k, k < 2 → parseFieldDescriptor (TX1 k).2.2.1 = some (tyX1 k) := by decide +kernel
abbrev cX1_init : ByteArray := prog_3_method_1_code
def yX1_init : MethodName := ⟨RX1, "<init>", "(I)V"⟩
abbrev cX1_matches : ByteArray := prog_3_method_2_code
def yX1_matches : MethodName := ⟨RX1, "matches", "(LPreparedPlans$Data;[I)J"⟩
abbrev cX1_addSargable : ByteArray := prog_3_method_3_code
def yX1_addSargable : MethodName := ⟨RX1, "addSargable", "(Ljava/util/ArrayList;)V"⟩
def RX2 : String := "PreparedPlans$Condition"
def TX2 : u_T := fun k => match k with
  | _ => ("", "", "", false)
def tyX2 : Nat → FieldType := fun k => match k with
  | _ => .int
abbrev wsX20 : List Cond := u_ws RX2 TX2 0
theorem nmX2 : ∀ a, a < 0 → ∀ b, b < 0 → a ≠ b → (TX2 a).2.1 ≠ (TX2 b).2.1 := by decide +kernel
theorem tyX2_ok : ∀ k, k < 0 → parseFieldDescriptor (TX2 k).2.2.1 = some (tyX2 k) := by decide +kernel
abbrev cX2_init : ByteArray := prog_4_method_1_code
def yX2_init : MethodName := ⟨RX2, "<init>", "()V"⟩
def RX3 : String := "PreparedPlans$Data"
def TX3 : u_T := fun k => match k with
  | 0 => ("PreparedPlans$Data", "setup", "LPreparedPlans$Setup;", false)
  | 1 => ("PreparedPlans$Data", "rowCount", "I", false)
  | 2 => ("PreparedPlans$Data", "version", "I", false)
  | 3 => ("PreparedPlans$Data", "cells", "[I", true)
  | 4 => ("PreparedPlans$Data", "isIndexed", "[Z", true)
  | 5 => ("PreparedPlans$Data", "statistics", "LPreparedPlans$Statistics;", true)
  | _ => ("PreparedPlans$Data", "usages", "[LPreparedPlans$Usage;", true)
def tyX3 : Nat → FieldType := fun k => match k with
  | 0 => .object "PreparedPlans$Setup"
  | 1 => .int
  | 2 => .int
  | 3 => .array .int
  | 4 => .array .boolean
  | 5 => .object "PreparedPlans$Statistics"
  | _ => .array (.object "PreparedPlans$Usage")
abbrev wsX30 : List Cond := u_ws RX3 TX3 7
theorem nmX3 : ∀ a, a < 7 → ∀ b, b < 7 → a ≠ b → (TX3 a).2.1 ≠ (TX3 b).2.1 := by decide +kernel
theorem tyX3_ok : ∀ k, k < 7 → parseFieldDescriptor (TX3 k).2.2.1 = some (tyX3 k) := by decide +kernel
abbrev cX3_init : ByteArray := prog_5_method_1_code
def yX3_init : MethodName := ⟨RX3, "<init>", "(LPreparedPlans$Setup;)V"⟩
abbrev cX3_clear : ByteArray := prog_5_method_2_code
def yX3_clear : MethodName := ⟨RX3, "clear", "(LPreparedPlans$Setup;)V"⟩
abbrev cX3_copyFrom : ByteArray := prog_5_method_3_code
def yX3_copyFrom : MethodName := ⟨RX3, "copyFrom", "(LPreparedPlans$Data;)V"⟩
abbrev cX3_isCell : ByteArray := prog_5_method_4_code
def yX3_isCell : MethodName := ⟨RX3, "isCell", "(II)Z"⟩
abbrev cX3_cell : ByteArray := prog_5_method_5_code
def yX3_cell : MethodName := ⟨RX3, "cell", "(II)I"⟩
abbrev cX3_putCell : ByteArray := prog_5_method_6_code
def yX3_putCell : MethodName := ⟨RX3, "putCell", "(III)V"⟩
abbrev cX3_removeRow : ByteArray := prog_5_method_7_code
def yX3_removeRow : MethodName := ⟨RX3, "removeRow", "(I)V"⟩
abbrev cX3_allRows : ByteArray := prog_5_method_8_code
def yX3_allRows : MethodName := ⟨RX3, "allRows", "()J"⟩
abbrev cX3_takeStatistics : ByteArray := prog_5_method_9_code
def yX3_takeStatistics : MethodName := ⟨RX3, "takeStatistics", "()V"⟩
abbrev cX3_takeStatisticsOf : ByteArray := prog_5_method_10_code
def yX3_takeStatisticsOf : MethodName := ⟨RX3, "takeStatisticsOf", "(I)V"⟩
abbrev cX3_isFirst : ByteArray := prog_5_method_11_code
def yX3_isFirst : MethodName := ⟨RX3, "isFirst", "(II)Z"⟩
abbrev cX3_findRows : ByteArray := prog_5_method_12_code
def yX3_findRows : MethodName := ⟨RX3, "findRows", "(I[I)J"⟩
abbrev cX3_chosenFor : ByteArray := prog_5_method_13_code
def yX3_chosenFor : MethodName := ⟨RX3, "chosenFor", "(II[I)LPreparedPlans$Comparison;"⟩
abbrev cX3_costOf : ByteArray := prog_5_method_14_code
def yX3_costOf : MethodName := ⟨RX3, "costOf", "(II[I)I"⟩
abbrev cX3_bestPlan : ByteArray := prog_5_method_15_code
def yX3_bestPlan : MethodName := ⟨RX3, "bestPlan", "(I[I)I"⟩
abbrev cX3_choosePlan : ByteArray := prog_5_method_16_code
def yX3_choosePlan : MethodName := ⟨RX3, "choosePlan", "(I[I)I"⟩
abbrev cX3_execute : ByteArray := prog_5_method_17_code
def yX3_execute : MethodName := ⟨RX3, "execute", "(I[I)V"⟩
def RX4 : String := "PreparedPlans$Prepared"
def TX4 : u_T := fun k => match k with
  | 0 => ("PreparedPlans$Prepared", "name", "J", true)
  | 1 => ("PreparedPlans$Prepared", "condition", "LPreparedPlans$Condition;", true)
  | 2 => ("PreparedPlans$Prepared", "holeTypes", "[I", true)
  | _ => ("PreparedPlans$Prepared", "sargable", "Ljava/util/ArrayList;", true)
def tyX4 : Nat → FieldType := fun k => match k with
  | 0 => .long
  | 1 => .object "PreparedPlans$Condition"
  | 2 => .array .int
  | _ => .object "java/util/ArrayList"
abbrev wsX40 : List Cond := u_ws RX4 TX4 4
theorem nmX4 : ∀ a, a < 4 → ∀ b, b < 4 → a ≠ b → (TX4 a).2.1 ≠ (TX4 b).2.1 := by decide +kernel
theorem tyX4_ok : ∀ k, k < 4 → parseFieldDescriptor (TX4 k).2.2.1 = some (tyX4 k) := by decide +kernel
abbrev cX4_init : ByteArray := prog_6_method_1_code
def yX4_init : MethodName := ⟨RX4, "<init>", "(JLPreparedPlans$Condition;[I)V"⟩
def RX5 : String := "PreparedPlans$Setup"
def TX5 : u_T := fun k => match k with
  | 0 => ("PreparedPlans$Setup", "columnCount", "I", false)
  | 1 => ("PreparedPlans$Setup", "columnNames", "[J", true)
  | 2 => ("PreparedPlans$Setup", "columnTypes", "[I", true)
  | 3 => ("PreparedPlans$Setup", "statements", "Ljava/util/ArrayList;", true)
  | 4 => ("PreparedPlans$Setup", "scan", "I", false)
  | 5 => ("PreparedPlans$Setup", "probe", "I", false)
  | 6 => ("PreparedPlans$Setup", "fetch", "I", false)
  | _ => ("PreparedPlans$Setup", "tries", "I", false)
def tyX5 : Nat → FieldType := fun k => match k with
  | 0 => .int
  | 1 => .array .long
  | 2 => .array .int
  | 3 => .object "java/util/ArrayList"
  | 4 => .int
  | 5 => .int
  | 6 => .int
  | _ => .int
abbrev wsX50 : List Cond := u_ws RX5 TX5 8
theorem nmX5 : ∀ a, a < 8 → ∀ b, b < 8 → a ≠ b → (TX5 a).2.1 ≠ (TX5 b).2.1 := by decide +kernel
theorem tyX5_ok : ∀ k, k < 8 → parseFieldDescriptor (TX5 k).2.2.1 = some (tyX5 k) := by decide +kernel
abbrev cX5_init : ByteArray := prog_7_method_1_code
def yX5_init : MethodName := ⟨RX5, "<init>", "()V"⟩
abbrev cX5_addColumn : ByteArray := prog_7_method_2_code
def yX5_addColumn : MethodName := ⟨RX5, "addColumn", "(JI)V"⟩
abbrev cX5_typeOf : ByteArray := prog_7_method_3_code
def yX5_typeOf : MethodName := ⟨RX5, "typeOf", "(I)I"⟩
abbrev cX5_findColumn : ByteArray := prog_7_method_4_code
def yX5_findColumn : MethodName := ⟨RX5, "findColumn", "(J)I"⟩
abbrev cX5_findStatement : ByteArray := prog_7_method_5_code
def yX5_findStatement : MethodName := ⟨RX5, "findStatement", "(J)I"⟩
def RX6 : String := "PreparedPlans$SetupReader"
def TX6 : u_T := fun k => match k with
  | 0 => ("PreparedPlans$SetupReader", "tokens", "LPreparedPlans$Tokens;", true)
  | 1 => ("PreparedPlans$SetupReader", "data", "LPreparedPlans$Data;", true)
  | 2 => ("PreparedPlans$SetupReader", "setup", "LPreparedPlans$Setup;", true)
  | 3 => ("PreparedPlans$SetupReader", "holeTypes", "[I", false)
  | 4 => ("PreparedPlans$SetupReader", "error", "I", false)
  | _ => ("PreparedPlans$SetupReader", "errorAt", "I", false)
def tyX6 : Nat → FieldType := fun k => match k with
  | 0 => .object "PreparedPlans$Tokens"
  | 1 => .object "PreparedPlans$Data"
  | 2 => .object "PreparedPlans$Setup"
  | 3 => .array .int
  | 4 => .int
  | _ => .int
abbrev wsX60 : List Cond := u_ws RX6 TX6 6
theorem nmX6 : ∀ a, a < 6 → ∀ b, b < 6 → a ≠ b → (TX6 a).2.1 ≠ (TX6 b).2.1 := by decide +kernel
theorem tyX6_ok : ∀ k, k < 6 → parseFieldDescriptor (TX6 k).2.2.1 = some (tyX6 k) := by decide +kernel
abbrev cX6_init : ByteArray := prog_8_method_1_code
def yX6_init : MethodName := ⟨RX6, "<init>", "(LPreparedPlans$Tokens;LPreparedPlans$Data;)V"⟩
abbrev cX6_readSetup : ByteArray := prog_8_method_2_code
def yX6_readSetup : MethodName := ⟨RX6, "readSetup", "()V"⟩
abbrev cX6_fail : ByteArray := prog_8_method_3_code
def yX6_fail : MethodName := ⟨RX6, "fail", "(II)V"⟩
abbrev cX6_expectWord : ByteArray := prog_8_method_4_code
def yX6_expectWord : MethodName := ⟨RX6, "expectWord", "(Ljava/lang/String;)V"⟩
abbrev cX6_expectByte : ByteArray := prog_8_method_5_code
def yX6_expectByte : MethodName := ⟨RX6, "expectByte", "(C)V"⟩
abbrev cX6_takeNumber : ByteArray := prog_8_method_6_code
def yX6_takeNumber : MethodName := ⟨RX6, "takeNumber", "(I)I"⟩
abbrev cX6_takeName : ByteArray := prog_8_method_7_code
def yX6_takeName : MethodName := ⟨RX6, "takeName", "()J"⟩
abbrev cX6_takeColumn : ByteArray := prog_8_method_8_code
def yX6_takeColumn : MethodName := ⟨RX6, "takeColumn", "()I"⟩
abbrev cX6_readColumn : ByteArray := prog_8_method_9_code
def yX6_readColumn : MethodName := ⟨RX6, "readColumn", "()V"⟩
abbrev cX6_takeType : ByteArray := prog_8_method_10_code
def yX6_takeType : MethodName := ⟨RX6, "takeType", "()I"⟩
abbrev cX6_readIndex : ByteArray := prog_8_method_11_code
def yX6_readIndex : MethodName := ⟨RX6, "readIndex", "()V"⟩
abbrev cX6_readRow : ByteArray := prog_8_method_12_code
def yX6_readRow : MethodName := ⟨RX6, "readRow", "()V"⟩
abbrev cX6_readPrepare : ByteArray := prog_8_method_13_code
def yX6_readPrepare : MethodName := ⟨RX6, "readPrepare", "()V"⟩
abbrev cX6_readCost : ByteArray := prog_8_method_14_code
def yX6_readCost : MethodName := ⟨RX6, "readCost", "()V"⟩
abbrev cX6_readTries : ByteArray := prog_8_method_15_code
def yX6_readTries : MethodName := ⟨RX6, "readTries", "()V"⟩
abbrev cX6_readCondition : ByteArray := prog_8_method_16_code
def yX6_readCondition : MethodName := ⟨RX6, "readCondition", "(I)LPreparedPlans$Condition;"⟩
abbrev cX6_readFactor : ByteArray := prog_8_method_17_code
def yX6_readFactor : MethodName := ⟨RX6, "readFactor", "(I)LPreparedPlans$Condition;"⟩
abbrev cX6_readNested : ByteArray := prog_8_method_18_code
def yX6_readNested : MethodName := ⟨RX6, "readNested", "(I)LPreparedPlans$Condition;"⟩
abbrev cX6_takeSign : ByteArray := prog_8_method_19_code
def yX6_takeSign : MethodName := ⟨RX6, "takeSign", "()C"⟩
abbrev cX6_takeHole : ByteArray := prog_8_method_20_code
def yX6_takeHole : MethodName := ⟨RX6, "takeHole", "(I)I"⟩
def RX7 : String := "PreparedPlans$Statistics"
def TX7 : u_T := fun k => match k with
  | 0 => ("PreparedPlans$Statistics", "rowCount", "I", false)
  | 1 => ("PreparedPlans$Statistics", "different", "[I", true)
  | 2 => ("PreparedPlans$Statistics", "least", "[I", true)
  | _ => ("PreparedPlans$Statistics", "greatest", "[I", true)
def tyX7 : Nat → FieldType := fun k => match k with
  | 0 => .int
  | 1 => .array .int
  | 2 => .array .int
  | _ => .array .int
abbrev wsX70 : List Cond := u_ws RX7 TX7 4
theorem nmX7 : ∀ a, a < 4 → ∀ b, b < 4 → a ≠ b → (TX7 a).2.1 ≠ (TX7 b).2.1 := by decide +kernel
theorem tyX7_ok : ∀ k, k < 4 → parseFieldDescriptor (TX7 k).2.2.1 = some (tyX7 k) := by decide +kernel
abbrev cX7_init : ByteArray := prog_9_method_1_code
def yX7_init : MethodName := ⟨RX7, "<init>", "()V"⟩
abbrev cX7_copyFrom : ByteArray := prog_9_method_2_code
def yX7_copyFrom : MethodName := ⟨RX7, "copyFrom", "(LPreparedPlans$Statistics;)V"⟩
abbrev cX7_estimate : ByteArray := prog_9_method_3_code
def yX7_estimate : MethodName := ⟨RX7, "estimate", "(LPreparedPlans$Comparison;[I)I"⟩
abbrev cX7_estimateEqual : ByteArray := prog_9_method_4_code
def yX7_estimateEqual : MethodName := ⟨RX7, "estimateEqual", "(II)I"⟩
def RX8 : String := "PreparedPlans$Tokens"
def TX8 : u_T := fun k => match k with
  | 0 => ("PreparedPlans$Tokens", "kinds", "[I", true)
  | 1 => ("PreparedPlans$Tokens", "starts", "[I", true)
  | 2 => ("PreparedPlans$Tokens", "values", "[J", true)
  | 3 => ("PreparedPlans$Tokens", "count", "I", false)
  | 4 => ("PreparedPlans$Tokens", "next", "I", false)
  | 5 => ("PreparedPlans$Tokens", "kind", "I", false)
  | 6 => ("PreparedPlans$Tokens", "start", "I", false)
  | _ => ("PreparedPlans$Tokens", "value", "J", false)
def tyX8 : Nat → FieldType := fun k => match k with
  | 0 => .array .int
  | 1 => .array .int
  | 2 => .array .long
  | 3 => .int
  | 4 => .int
  | 5 => .int
  | 6 => .int
  | _ => .long
abbrev wsX80 : List Cond := u_ws RX8 TX8 8
theorem nmX8 : ∀ a, a < 8 → ∀ b, b < 8 → a ≠ b → (TX8 a).2.1 ≠ (TX8 b).2.1 := by decide +kernel
theorem tyX8_ok : ∀ k, k < 8 → parseFieldDescriptor (TX8 k).2.2.1 = some (tyX8 k) := by decide +kernel
abbrev cX8_init : ByteArray := prog_10_method_1_code
def yX8_init : MethodName := ⟨RX8, "<init>", "()V"⟩
abbrev cX8_split : ByteArray := prog_10_method_2_code
def yX8_split : MethodName := ⟨RX8, "split", "([BI)V"⟩
abbrev cX8_add : ByteArray := prog_10_method_3_code
def yX8_add : MethodName := ⟨RX8, "add", "(IIJ)V"⟩
abbrev cX8_addWord : ByteArray := prog_10_method_4_code
def yX8_addWord : MethodName := ⟨RX8, "addWord", "([BII)I"⟩
abbrev cX8_kindOf : ByteArray := prog_10_method_5_code
def yX8_kindOf : MethodName := ⟨RX8, "kindOf", "(J)I"⟩
abbrev cX8_addNumber : ByteArray := prog_10_method_6_code
def yX8_addNumber : MethodName := ⟨RX8, "addNumber", "([BII)I"⟩
abbrev cX8_advance : ByteArray := prog_10_method_7_code
def yX8_advance : MethodName := ⟨RX8, "advance", "()V"⟩
abbrev cX8_isWord : ByteArray := prog_10_method_8_code
def yX8_isWord : MethodName := ⟨RX8, "isWord", "(Ljava/lang/String;)Z"⟩
def RX9 : String := "PreparedPlans$Usage"
def TX9 : u_T := fun k => match k with
  | 0 => ("PreparedPlans$Usage", "runs", "I", false)
  | 1 => ("PreparedPlans$Usage", "specialRuns", "I", false)
  | 2 => ("PreparedPlans$Usage", "specialCosts", "I", false)
  | 3 => ("PreparedPlans$Usage", "genericsMade", "I", false)
  | 4 => ("PreparedPlans$Usage", "keptPlan", "I", false)
  | 5 => ("PreparedPlans$Usage", "keptCost", "I", false)
  | 6 => ("PreparedPlans$Usage", "keptVersion", "I", false)
  | 7 => ("PreparedPlans$Usage", "touched", "I", false)
  | _ => ("PreparedPlans$Usage", "percentages", "[I", true)
def tyX9 : Nat → FieldType := fun k => match k with
  | 0 => .int
  | 1 => .int
  | 2 => .int
  | 3 => .int
  | 4 => .int
  | 5 => .int
  | 6 => .int
  | 7 => .int
  | _ => .array .int
abbrev wsX90 : List Cond := u_ws RX9 TX9 9
theorem nmX9 : ∀ a, a < 9 → ∀ b, b < 9 → a ≠ b → (TX9 a).2.1 ≠ (TX9 b).2.1 := by decide +kernel
theorem tyX9_ok : ∀ k, k < 9 → parseFieldDescriptor (TX9 k).2.2.1 = some (tyX9 k) := by decide +kernel
abbrev cX9_init : ByteArray := prog_11_method_1_code
def yX9_init : MethodName := ⟨RX9, "<init>", "()V"⟩
abbrev cX9_clear : ByteArray := prog_11_method_2_code
def yX9_clear : MethodName := ⟨RX9, "clear", "()V"⟩
abbrev cX9_copyFrom : ByteArray := prog_11_method_3_code
def yX9_copyFrom : MethodName := ⟨RX9, "copyFrom", "(LPreparedPlans$Usage;)V"⟩
abbrev cX9_keepsFreshPlan : ByteArray := prog_11_method_4_code
def yX9_keepsFreshPlan : MethodName := ⟨RX9, "keepsFreshPlan", "(I)Z"⟩
abbrev cX9_prefersKeptPlan : ByteArray := prog_11_method_5_code
def yX9_prefersKeptPlan : MethodName := ⟨RX9, "prefersKeptPlan", "()Z"⟩
abbrev cX9_keep : ByteArray := prog_11_method_6_code
def yX9_keep : MethodName := ⟨RX9, "keep", "(III)V"⟩
abbrev cX9_learn : ByteArray := prog_11_method_7_code
def yX9_learn : MethodName := ⟨RX9, "learn", "(III)V"⟩
def RX10 : String := "PreparedPlans"
def TX10 : u_T := fun k => match k with
  | 0 => ("PreparedPlans", "buffer", "[B", true)
  | 1 => ("PreparedPlans", "bufferLength", "I", false)
  | 2 => ("PreparedPlans", "latestErrorOffset", "I", false)
  | 3 => ("PreparedPlans", "tokens", "LPreparedPlans$Tokens;", true)
  | 4 => ("PreparedPlans", "slots", "[LPreparedPlans$Data;", true)
  | 5 => ("PreparedPlans", "currentSlot", "I", false)
  | _ => ("PreparedPlans", "undoable", "I", false)
def tyX10 : Nat → FieldType := fun k => match k with
  | 0 => .array .byte
  | 1 => .int
  | 2 => .int
  | 3 => .object "PreparedPlans$Tokens"
  | 4 => .array (.object "PreparedPlans$Data")
  | 5 => .int
  | _ => .int
abbrev wsX100 : List Cond := u_ws RX10 TX10 7
theorem nmX10 : ∀ a, a < 7 → ∀ b, b < 7 → a ≠ b → (TX10 a).2.1 ≠ (TX10 b).2.1 := by decide +kernel
theorem tyX10_ok : ∀ k, k < 7 → parseFieldDescriptor (TX10 k).2.2.1 = some (tyX10 k) := by decide +kernel
abbrev cX10_init : ByteArray := prog_1_method_1_code
def yX10_init : MethodName := ⟨RX10, "<init>", "()V"⟩
abbrev cX10_append : ByteArray := prog_1_method_2_code
def yX10_append : MethodName := ⟨RX10, "append", "(IIIII)I"⟩
abbrev cX10_load : ByteArray := prog_1_method_3_code
def yX10_load : MethodName := ⟨RX10, "load", "(I)I"⟩
abbrev cX10_errorOffset : ByteArray := prog_1_method_4_code
def yX10_errorOffset : MethodName := ⟨RX10, "errorOffset", "()I"⟩
abbrev cX10_count : ByteArray := prog_1_method_5_code
def yX10_count : MethodName := ⟨RX10, "count", "(I)I"⟩
abbrev cX10_column : ByteArray := prog_1_method_6_code
def yX10_column : MethodName := ⟨RX10, "column", "(II)I"⟩
abbrev cX10_value : ByteArray := prog_1_method_7_code
def yX10_value : MethodName := ⟨RX10, "value", "(II)I"⟩
abbrev cX10_named : ByteArray := prog_1_method_8_code
def yX10_named : MethodName := ⟨RX10, "named", "(I)I"⟩
abbrev cX10_hole : ByteArray := prog_1_method_9_code
def yX10_hole : MethodName := ⟨RX10, "hole", "(II)I"⟩
abbrev cX10_statement : ByteArray := prog_1_method_10_code
def yX10_statement : MethodName := ⟨RX10, "statement", "(II)I"⟩
abbrev cX10_learned : ByteArray := prog_1_method_11_code
def yX10_learned : MethodName := ⟨RX10, "learned", "(II)I"⟩
abbrev cX10_kept : ByteArray := prog_1_method_12_code
def yX10_kept : MethodName := ⟨RX10, "kept", "(I)I"⟩
abbrev cX10_genericCost : ByteArray := prog_1_method_13_code
def yX10_genericCost : MethodName := ⟨RX10, "genericCost", "(II)I"⟩
abbrev cX10_special : ByteArray := prog_1_method_14_code
def yX10_special : MethodName := ⟨RX10, "special", "(IIIII)I"⟩
abbrev cX10_specialCost : ByteArray := prog_1_method_15_code
def yX10_specialCost : MethodName := ⟨RX10, "specialCost", "(IIIIII)I"⟩
abbrev cX10_wouldUse : ByteArray := prog_1_method_16_code
def yX10_wouldUse : MethodName := ⟨RX10, "wouldUse", "(IIIII)I"⟩
abbrev cX10_rows : ByteArray := prog_1_method_17_code
def yX10_rows : MethodName := ⟨RX10, "rows", "(IIIII)J"⟩
abbrev cX10_run : ByteArray := prog_1_method_18_code
def yX10_run : MethodName := ⟨RX10, "run", "(IIIII)I"⟩
abbrev cX10_insert : ByteArray := prog_1_method_19_code
def yX10_insert : MethodName := ⟨RX10, "insert", "(IIIII)I"⟩
abbrev cX10_delete : ByteArray := prog_1_method_20_code
def yX10_delete : MethodName := ⟨RX10, "delete", "(I)I"⟩
abbrev cX10_setIndex : ByteArray := prog_1_method_21_code
def yX10_setIndex : MethodName := ⟨RX10, "setIndex", "(IZ)Z"⟩
abbrev cX10_analyze : ByteArray := prog_1_method_22_code
def yX10_analyze : MethodName := ⟨RX10, "analyze", "()I"⟩
abbrev cX10_undo : ByteArray := prog_1_method_23_code
def yX10_undo : MethodName := ⟨RX10, "undo", "()I"⟩
abbrev cX10_checksum : ByteArray := prog_1_method_24_code
def yX10_checksum : MethodName := ⟨RX10, "checksum", "()J"⟩
abbrev cX10_addStatement : ByteArray := prog_1_method_25_code
def yX10_addStatement : MethodName := ⟨RX10, "addStatement", "(JI)J"⟩
abbrev cX10_appendWord : ByteArray := prog_1_method_26_code
def yX10_appendWord : MethodName := ⟨RX10, "appendWord", "(I)V"⟩
abbrev cX10_current : ByteArray := prog_1_method_27_code
def yX10_current : MethodName := ⟨RX10, "current", "()LPreparedPlans$Data;"⟩
abbrev cX10_spareSlot : ByteArray := prog_1_method_28_code
def yX10_spareSlot : MethodName := ⟨RX10, "spareSlot", "()I"⟩
abbrev cX10_spareCopy : ByteArray := prog_1_method_29_code
def yX10_spareCopy : MethodName := ⟨RX10, "spareCopy", "()LPreparedPlans$Data;"⟩
abbrev cX10_takeSpare : ByteArray := prog_1_method_30_code
def yX10_takeSpare : MethodName := ⟨RX10, "takeSpare", "()V"⟩
abbrev cX10_checkLength : ByteArray := prog_1_method_31_code
def yX10_checkLength : MethodName := ⟨RX10, "checkLength", "(I)V"⟩
abbrev cX10_checkColumn : ByteArray := prog_1_method_32_code
def yX10_checkColumn : MethodName := ⟨RX10, "checkColumn", "(I)V"⟩
abbrev cX10_checkRow : ByteArray := prog_1_method_33_code
def yX10_checkRow : MethodName := ⟨RX10, "checkRow", "(I)V"⟩
abbrev cX10_checkStatement : ByteArray := prog_1_method_34_code
def yX10_checkStatement : MethodName := ⟨RX10, "checkStatement", "(I)V"⟩
abbrev cX10_checkPlan : ByteArray := prog_1_method_35_code
def yX10_checkPlan : MethodName := ⟨RX10, "checkPlan", "(I)V"⟩
abbrev cX10_checkRange : ByteArray := prog_1_method_36_code
def yX10_checkRange : MethodName := ⟨RX10, "checkRange", "(II)V"⟩
abbrev cX10_checkedValues : ByteArray := prog_1_method_37_code
def yX10_checkedValues : MethodName := ⟨RX10, "checkedValues", "(IIIII)[I"⟩
abbrev cX10_greatestOf : ByteArray := prog_1_method_38_code
def yX10_greatestOf : MethodName := ⟨RX10, "greatestOf", "(I)I"⟩
abbrev cX10_nameIn : ByteArray := prog_1_method_39_code
def yX10_nameIn : MethodName := ⟨RX10, "nameIn", "([BII)J"⟩
abbrev cX10_nameOf : ByteArray := prog_1_method_40_code
def yX10_nameOf : MethodName := ⟨RX10, "nameOf", "(Ljava/lang/String;)J"⟩
abbrev cX10_isLetter : ByteArray := prog_1_method_41_code
def yX10_isLetter : MethodName := ⟨RX10, "isLetter", "(B)Z"⟩
abbrev cX10_isDigit : ByteArray := prog_1_method_42_code
def yX10_isDigit : MethodName := ⟨RX10, "isDigit", "(B)Z"⟩
def RX11 : String := "PreparedPlansModel"
def TX11 : u_T := fun k => match k with
  | 0 => ("PreparedPlansModel", "thrown", "I", false)
  | 1 => ("PreparedPlansModel", "rows", "[I", true)
  | 2 => ("PreparedPlansModel", "read", "[I", true)
  | 3 => ("PreparedPlansModel", "now", "I", false)
  | 4 => ("PreparedPlansModel", "undoable", "I", false)
  | 5 => ("PreparedPlansModel", "text", "[I", true)
  | 6 => ("PreparedPlansModel", "bytes", "I", false)
  | 7 => ("PreparedPlansModel", "errorAt", "I", false)
  | 8 => ("PreparedPlansModel", "size", "I", false)
  | 9 => ("PreparedPlansModel", "next", "I", false)
  | 10 => ("PreparedPlansModel", "error", "I", false)
  | 11 => ("PreparedPlansModel", "place", "I", false)
  | 12 => ("PreparedPlansModel", "began", "I", false)
  | 13 => ("PreparedPlansModel", "nested", "I", false)
  | 14 => ("PreparedPlansModel", "nameAt", "I", false)
  | 15 => ("PreparedPlansModel", "nameEnd", "I", false)
  | 16 => ("PreparedPlansModel", "reading", "I", false)
  | 17 => ("PreparedPlansModel", "given", "[I", true)
  | 18 => ("PreparedPlansModel", "pile", "[Z", true)
  | _ => ("PreparedPlansModel", "total", "J", false)
def tyX11 : Nat → FieldType := fun k => match k with
  | 0 => .int
  | 1 => .array .int
  | 2 => .array .int
  | 3 => .int
  | 4 => .int
  | 5 => .array .int
  | 6 => .int
  | 7 => .int
  | 8 => .int
  | 9 => .int
  | 10 => .int
  | 11 => .int
  | 12 => .int
  | 13 => .int
  | 14 => .int
  | 15 => .int
  | 16 => .int
  | 17 => .array .int
  | 18 => .array .boolean
  | _ => .long
abbrev wsX110 : List Cond := u_ws RX11 TX11 20
theorem nmX11 : ∀ a, a < 20 → ∀ b, b < 20 → a ≠ b → (TX11 a).2.1 ≠ (TX11 b).2.1 := by decide +kernel
theorem tyX11_ok : ∀ k, k < 20 → parseFieldDescriptor (TX11 k).2.2.1 = some (tyX11 k) := by decide +kernel
abbrev cX11_init : ByteArray := prog_13_method_1_code
def yX11_init : MethodName := ⟨RX11, "<init>", "()V"⟩
abbrev cX11_thrown : ByteArray := prog_13_method_2_code
def yX11_thrown : MethodName := ⟨RX11, "thrown", "()I"⟩
abbrev cX11_isIn : ByteArray := prog_13_method_3_code
def yX11_isIn : MethodName := ⟨RX11, "isIn", "(JJJ)Z"⟩
abbrev cX11_get : ByteArray := prog_13_method_4_code
def yX11_get : MethodName := ⟨RX11, "get", "(I)I"⟩
abbrev cX11_put : ByteArray := prog_13_method_5_code
def yX11_put : MethodName := ⟨RX11, "put", "(II)V"⟩
abbrev cX11_add : ByteArray := prog_13_method_6_code
def yX11_add : MethodName := ⟨RX11, "add", "(II)V"⟩
abbrev cX11_change : ByteArray := prog_13_method_7_code
def yX11_change : MethodName := ⟨RX11, "change", "()V"⟩
abbrev cX11_right : ByteArray := prog_13_method_8_code
def yX11_right : MethodName := ⟨RX11, "right", "(ZI)Z"⟩
abbrev cX11_plain : ByteArray := prog_13_method_9_code
def yX11_plain : MethodName := ⟨RX11, "plain", "()V"⟩
abbrev cX11_columnAt : ByteArray := prog_13_method_10_code
def yX11_columnAt : MethodName := ⟨RX11, "columnAt", "(II)I"⟩
abbrev cX11_valueAt : ByteArray := prog_13_method_11_code
def yX11_valueAt : MethodName := ⟨RX11, "valueAt", "(II)I"⟩
abbrev cX11_statementAt : ByteArray := prog_13_method_12_code
def yX11_statementAt : MethodName := ⟨RX11, "statementAt", "(II)I"⟩
abbrev cX11_codeAt : ByteArray := prog_13_method_13_code
def yX11_codeAt : MethodName := ⟨RX11, "codeAt", "(II)I"⟩
abbrev cX11_ofColumn : ByteArray := prog_13_method_14_code
def yX11_ofColumn : MethodName := ⟨RX11, "ofColumn", "(II)I"⟩
abbrev cX11_ofStatement : ByteArray := prog_13_method_15_code
def yX11_ofStatement : MethodName := ⟨RX11, "ofStatement", "(II)I"⟩
abbrev cX11_ofCode : ByteArray := prog_13_method_16_code
def yX11_ofCode : MethodName := ⟨RX11, "ofCode", "(II)I"⟩
abbrev cX11_mostOf : ByteArray := prog_13_method_17_code
def yX11_mostOf : MethodName := ⟨RX11, "mostOf", "(I)I"⟩
abbrev cX11_append : ByteArray := prog_13_method_18_code
def yX11_append : MethodName := ⟨RX11, "append", "(IIIII)I"⟩
abbrev cX11_fails : ByteArray := prog_13_method_19_code
def yX11_fails : MethodName := ⟨RX11, "fails", "(II)V"⟩
abbrev cX11_sees : ByteArray := prog_13_method_20_code
def yX11_sees : MethodName := ⟨RX11, "sees", "()I"⟩
abbrev cX11_isLetterOf : ByteArray := prog_13_method_21_code
def yX11_isLetterOf : MethodName := ⟨RX11, "isLetterOf", "(I)Z"⟩
abbrev cX11_wordEnd : ByteArray := prog_13_method_22_code
def yX11_wordEnd : MethodName := ⟨RX11, "wordEnd", "()I"⟩
abbrev cX11_isHere : ByteArray := prog_13_method_23_code
def yX11_isHere : MethodName := ⟨RX11, "isHere", "(Ljava/lang/String;)Z"⟩
abbrev cX11_takes : ByteArray := prog_13_method_24_code
def yX11_takes : MethodName := ⟨RX11, "takes", "(Ljava/lang/String;)Z"⟩
abbrev cX11_wants : ByteArray := prog_13_method_25_code
def yX11_wants : MethodName := ⟨RX11, "wants", "(I)V"⟩
abbrev cX11_isDigit : ByteArray := prog_13_method_26_code
def yX11_isDigit : MethodName := ⟨RX11, "isDigit", "()Z"⟩
abbrev cX11_reads : ByteArray := prog_13_method_27_code
def yX11_reads : MethodName := ⟨RX11, "reads", "(II)I"⟩
abbrev cX11_isName : ByteArray := prog_13_method_28_code
def yX11_isName : MethodName := ⟨RX11, "isName", "()Z"⟩
abbrev cX11_reach : ByteArray := prog_13_method_29_code
def yX11_reach : MethodName := ⟨RX11, "reach", "()V"⟩
abbrev cX11_nameInto : ByteArray := prog_13_method_30_code
def yX11_nameInto : MethodName := ⟨RX11, "nameInto", "(I)V"⟩
abbrev cX11_seek : ByteArray := prog_13_method_31_code
def yX11_seek : MethodName := ⟨RX11, "seek", "(III)I"⟩
abbrev cX11_freshName : ByteArray := prog_13_method_32_code
def yX11_freshName : MethodName := ⟨RX11, "freshName", "(III)V"⟩
abbrev cX11_knownColumn : ByteArray := prog_13_method_33_code
def yX11_knownColumn : MethodName := ⟨RX11, "knownColumn", "()I"⟩
abbrev cX11_codes : ByteArray := prog_13_method_34_code
def yX11_codes : MethodName := ⟨RX11, "codes", "(II)I"⟩
abbrev cX11_condition : ByteArray := prog_13_method_35_code
def yX11_condition : MethodName := ⟨RX11, "condition", "(Z)V"⟩
abbrev cX11_term : ByteArray := prog_13_method_36_code
def yX11_term : MethodName := ⟨RX11, "term", "(Z)V"⟩
abbrev cX11_deepens : ByteArray := prog_13_method_37_code
def yX11_deepens : MethodName := ⟨RX11, "deepens", "()Z"⟩
abbrev cX11_factor : ByteArray := prog_13_method_38_code
def yX11_factor : MethodName := ⟨RX11, "factor", "(Z)V"⟩
abbrev cX11_comparison : ByteArray := prog_13_method_39_code
def yX11_comparison : MethodName := ⟨RX11, "comparison", "(Z)V"⟩
abbrev cX11_holeHere : ByteArray := prog_13_method_40_code
def yX11_holeHere : MethodName := ⟨RX11, "holeHere", "(I)I"⟩
abbrev cX11_columnHere : ByteArray := prog_13_method_41_code
def yX11_columnHere : MethodName := ⟨RX11, "columnHere", "(I)I"⟩
abbrev cX11_columnLine : ByteArray := prog_13_method_42_code
def yX11_columnLine : MethodName := ⟨RX11, "columnLine", "(I)V"⟩
abbrev cX11_indexLine : ByteArray := prog_13_method_43_code
def yX11_indexLine : MethodName := ⟨RX11, "indexLine", "()V"⟩
abbrev cX11_rowLine : ByteArray := prog_13_method_44_code
def yX11_rowLine : MethodName := ⟨RX11, "rowLine", "(I)V"⟩
abbrev cX11_prepareLine : ByteArray := prog_13_method_45_code
def yX11_prepareLine : MethodName := ⟨RX11, "prepareLine", "(I)V"⟩
abbrev cX11_costLine : ByteArray := prog_13_method_46_code
def yX11_costLine : MethodName := ⟨RX11, "costLine", "()V"⟩
abbrev cX11_triesLine : ByteArray := prog_13_method_47_code
def yX11_triesLine : MethodName := ⟨RX11, "triesLine", "()V"⟩
abbrev cX11_startOf : ByteArray := prog_13_method_48_code
def yX11_startOf : MethodName := ⟨RX11, "startOf", "(Ljava/lang/String;)I"⟩
abbrev cX11_texts : ByteArray := prog_13_method_49_code
def yX11_texts : MethodName := ⟨RX11, "texts", "()V"⟩
abbrev cX11_load : ByteArray := prog_13_method_50_code
def yX11_load : MethodName := ⟨RX11, "load", "(I)I"⟩
abbrev cX11_errorOffset : ByteArray := prog_13_method_51_code
def yX11_errorOffset : MethodName := ⟨RX11, "errorOffset", "()I"⟩
abbrev cX11_unlike : ByteArray := prog_13_method_52_code
def yX11_unlike : MethodName := ⟨RX11, "unlike", "(I)I"⟩
abbrev cX11_extreme : ByteArray := prog_13_method_53_code
def yX11_extreme : MethodName := ⟨RX11, "extreme", "(IZ)I"⟩
abbrev cX11_looks : ByteArray := prog_13_method_54_code
def yX11_looks : MethodName := ⟨RX11, "looks", "()V"⟩
abbrev cX11_up : ByteArray := prog_13_method_55_code
def yX11_up : MethodName := ⟨RX11, "up", "(II)I"⟩
abbrev cX11_seenEstimate : ByteArray := prog_13_method_56_code
def yX11_seenEstimate : MethodName := ⟨RX11, "seenEstimate", "(II)I"⟩
abbrev cX11_estimate : ByteArray := prog_13_method_57_code
def yX11_estimate : MethodName := ⟨RX11, "estimate", "(IZ)I"⟩
abbrev cX11_chosen : ByteArray := prog_13_method_58_code
def yX11_chosen : MethodName := ⟨RX11, "chosen", "(IIZ)I"⟩
abbrev cX11_costOf : ByteArray := prog_13_method_59_code
def yX11_costOf : MethodName := ⟨RX11, "costOf", "(IIZ)I"⟩
abbrev cX11_bestPlan : ByteArray := prog_13_method_60_code
def yX11_bestPlan : MethodName := ⟨RX11, "bestPlan", "(IZ)I"⟩
abbrev cX11_isTrue : ByteArray := prog_13_method_61_code
def yX11_isTrue : MethodName := ⟨RX11, "isTrue", "(II)Z"⟩
abbrev cX11_finds : ByteArray := prog_13_method_62_code
def yX11_finds : MethodName := ⟨RX11, "finds", "(II)Z"⟩
abbrev cX11_count : ByteArray := prog_13_method_63_code
def yX11_count : MethodName := ⟨RX11, "count", "(I)I"⟩
abbrev cX11_noColumn : ByteArray := prog_13_method_64_code
def yX11_noColumn : MethodName := ⟨RX11, "noColumn", "(I)Z"⟩
abbrev cX11_noStatement : ByteArray := prog_13_method_65_code
def yX11_noStatement : MethodName := ⟨RX11, "noStatement", "(I)Z"⟩
abbrev cX11_column : ByteArray := prog_13_method_66_code
def yX11_column : MethodName := ⟨RX11, "column", "(II)I"⟩
abbrev cX11_value : ByteArray := prog_13_method_67_code
def yX11_value : MethodName := ⟨RX11, "value", "(II)I"⟩
abbrev cX11_nameOf : ByteArray := prog_13_method_68_code
def yX11_nameOf : MethodName := ⟨RX11, "nameOf", "(I)I"⟩
abbrev cX11_named : ByteArray := prog_13_method_69_code
def yX11_named : MethodName := ⟨RX11, "named", "(I)I"⟩
abbrev cX11_hole : ByteArray := prog_13_method_70_code
def yX11_hole : MethodName := ⟨RX11, "hole", "(II)I"⟩
abbrev cX11_stateOf : ByteArray := prog_13_method_71_code
def yX11_stateOf : MethodName := ⟨RX11, "stateOf", "(I)I"⟩
abbrev cX11_toldOf : ByteArray := prog_13_method_72_code
def yX11_toldOf : MethodName := ⟨RX11, "toldOf", "(II)I"⟩
abbrev cX11_statement : ByteArray := prog_13_method_73_code
def yX11_statement : MethodName := ⟨RX11, "statement", "(II)I"⟩
abbrev cX11_learned : ByteArray := prog_13_method_74_code
def yX11_learned : MethodName := ⟨RX11, "learned", "(II)I"⟩
abbrev cX11_kept : ByteArray := prog_13_method_75_code
def yX11_kept : MethodName := ⟨RX11, "kept", "(I)I"⟩
abbrev cX11_isPlan : ByteArray := prog_13_method_76_code
def yX11_isPlan : MethodName := ⟨RX11, "isPlan", "(I)Z"⟩
abbrev cX11_genericCost : ByteArray := prog_13_method_77_code
def yX11_genericCost : MethodName := ⟨RX11, "genericCost", "(II)I"⟩
abbrev cX11_isValue : ByteArray := prog_13_method_78_code
def yX11_isValue : MethodName := ⟨RX11, "isValue", "(III)Z"⟩
abbrev cX11_takesValues : ByteArray := prog_13_method_79_code
def yX11_takesValues : MethodName := ⟨RX11, "takesValues", "(IIIII)Z"⟩
abbrev cX11_special : ByteArray := prog_13_method_80_code
def yX11_special : MethodName := ⟨RX11, "special", "(IIIII)I"⟩
abbrev cX11_specialCost : ByteArray := prog_13_method_81_code
def yX11_specialCost : MethodName := ⟨RX11, "specialCost", "(IIIIII)I"⟩
abbrev cX11_isFresh : ByteArray := prog_13_method_82_code
def yX11_isFresh : MethodName := ⟨RX11, "isFresh", "(I)Z"⟩
abbrev cX11_isGeneric : ByteArray := prog_13_method_83_code
def yX11_isGeneric : MethodName := ⟨RX11, "isGeneric", "(II)Z"⟩
abbrev cX11_wouldUse : ByteArray := prog_13_method_84_code
def yX11_wouldUse : MethodName := ⟨RX11, "wouldUse", "(IIIII)I"⟩
abbrev cX11_rows : ByteArray := prog_13_method_85_code
def yX11_rows : MethodName := ⟨RX11, "rows", "(IIIII)J"⟩
abbrev cX11_makesGeneric : ByteArray := prog_13_method_86_code
def yX11_makesGeneric : MethodName := ⟨RX11, "makesGeneric", "(I)V"⟩
abbrev cX11_learns : ByteArray := prog_13_method_87_code
def yX11_learns : MethodName := ⟨RX11, "learns", "(IIIZI)V"⟩
abbrev cX11_touches : ByteArray := prog_13_method_88_code
def yX11_touches : MethodName := ⟨RX11, "touches", "(IIZ)V"⟩
abbrev cX11_run : ByteArray := prog_13_method_89_code
def yX11_run : MethodName := ⟨RX11, "run", "(IIIII)I"⟩
abbrev cX11_isCell : ByteArray := prog_13_method_90_code
def yX11_isCell : MethodName := ⟨RX11, "isCell", "(II)Z"⟩
abbrev cX11_insert : ByteArray := prog_13_method_91_code
def yX11_insert : MethodName := ⟨RX11, "insert", "(IIIII)I"⟩
abbrev cX11_delete : ByteArray := prog_13_method_92_code
def yX11_delete : MethodName := ⟨RX11, "delete", "(I)I"⟩
abbrev cX11_setIndex : ByteArray := prog_13_method_93_code
def yX11_setIndex : MethodName := ⟨RX11, "setIndex", "(IZ)Z"⟩
abbrev cX11_analyze : ByteArray := prog_13_method_94_code
def yX11_analyze : MethodName := ⟨RX11, "analyze", "()I"⟩
abbrev cX11_undo : ByteArray := prog_13_method_95_code
def yX11_undo : MethodName := ⟨RX11, "undo", "()I"⟩
abbrev cX11_adds : ByteArray := prog_13_method_96_code
def yX11_adds : MethodName := ⟨RX11, "adds", "(J)V"⟩
abbrev cX11_addsStatement : ByteArray := prog_13_method_97_code
def yX11_addsStatement : MethodName := ⟨RX11, "addsStatement", "(I)V"⟩
abbrev cX11_checksum : ByteArray := prog_13_method_98_code
def yX11_checksum : MethodName := ⟨RX11, "checksum", "()J"⟩
def RJx145de : String := "java/io/Serializable"
def TJx145de : u_T := fun k => match k with
  | _ => ("", "", "", false)
def tyJx145de : Nat → FieldType := fun k => match k with
  | _ => .int
abbrev wsJx145de0 : List Cond := u_ws RJx145de TJx145de 0
theorem nmJx145de : ∀ a, a < 0 → ∀ b, b < 0 → a ≠ b → (TJx145de a).2.1 ≠ (TJx145de b).2.1 := by decide +kernel
theorem tyJx145de_ok : ∀ k, k < 0 → parseFieldDescriptor (TJx145de k).2.2.1 = some (tyJx145de k) := by decide +kernel
def RJx9f9b0 : String := "java/lang/CharSequence"
def TJx9f9b0 : u_T := fun k => match k with
  | _ => ("", "", "", false)
def tyJx9f9b0 : Nat → FieldType := fun k => match k with
  | _ => .int
abbrev wsJx9f9b00 : List Cond := u_ws RJx9f9b0 TJx9f9b0 0
theorem nmJx9f9b0 : ∀ a, a < 0 → ∀ b, b < 0 → a ≠ b → (TJx9f9b0 a).2.1 ≠ (TJx9f9b0 b).2.1 := by decide +kernel
theorem tyJx9f9b0_ok : ∀ k, k < 0 → parseFieldDescriptor (TJx9f9b0 k).2.2.1 = some (tyJx9f9b0 k) := by decide +kernel
def RJx8e188 : String := "java/lang/Cloneable"
def TJx8e188 : u_T := fun k => match k with
  | _ => ("", "", "", false)
def tyJx8e188 : Nat → FieldType := fun k => match k with
  | _ => .int
abbrev wsJx8e1880 : List Cond := u_ws RJx8e188 TJx8e188 0
theorem nmJx8e188 : ∀ a, a < 0 → ∀ b, b < 0 → a ≠ b → (TJx8e188 a).2.1 ≠ (TJx8e188 b).2.1 := by decide +kernel
theorem tyJx8e188_ok : ∀ k, k < 0 → parseFieldDescriptor (TJx8e188 k).2.2.1 = some (tyJx8e188 k) := by decide +kernel
def RJxb160c : String := "java/lang/Comparable"
def TJxb160c : u_T := fun k => match k with
  | _ => ("", "", "", false)
def tyJxb160c : Nat → FieldType := fun k => match k with
  | _ => .int
abbrev wsJxb160c0 : List Cond := u_ws RJxb160c TJxb160c 0
theorem nmJxb160c : ∀ a, a < 0 → ∀ b, b < 0 → a ≠ b → (TJxb160c a).2.1 ≠ (TJxb160c b).2.1 := by decide +kernel
theorem tyJxb160c_ok : ∀ k, k < 0 → parseFieldDescriptor (TJxb160c k).2.2.1 = some (tyJxb160c k) := by decide +kernel
def RJxab1ab : String := "java/lang/Iterable"
def TJxab1ab : u_T := fun k => match k with
  | _ => ("", "", "", false)
def tyJxab1ab : Nat → FieldType := fun k => match k with
  | _ => .int
abbrev wsJxab1ab0 : List Cond := u_ws RJxab1ab TJxab1ab 0
theorem nmJxab1ab : ∀ a, a < 0 → ∀ b, b < 0 → a ≠ b → (TJxab1ab a).2.1 ≠ (TJxab1ab b).2.1 := by decide +kernel
theorem tyJxab1ab_ok : ∀ k, k < 0 → parseFieldDescriptor (TJxab1ab k).2.2.1 = some (tyJxab1ab k) := by decide +kernel
def RJ13 : String := "java/lang/Long"
def TJ13 : u_T := fun k => match k with
  | _ => ("", "", "", false)
def tyJ13 : Nat → FieldType := fun k => match k with
  | _ => .int
abbrev wsJ130 : List Cond := u_ws RJ13 TJ13 0
theorem nmJ13 : ∀ a, a < 0 → ∀ b, b < 0 → a ≠ b → (TJ13 a).2.1 ≠ (TJ13 b).2.1 := by decide +kernel
theorem tyJ13_ok : ∀ k, k < 0 → parseFieldDescriptor (TJ13 k).2.2.1 = some (tyJ13 k) := by decide +kernel
abbrev cJ13_bitCount_95d88 : ByteArray := prog_23_method_50_code
def yJ13_bitCount_95d88 : MethodName := ⟨RJ13, "bitCount", "(J)I"⟩
def RJ9 : String := "java/lang/Math"
def TJ9 : u_T := fun k => match k with
  | _ => ("", "", "", false)
def tyJ9 : Nat → FieldType := fun k => match k with
  | _ => .int
abbrev wsJ90 : List Cond := u_ws RJ9 TJ9 0
theorem nmJ9 : ∀ a, a < 0 → ∀ b, b < 0 → a ≠ b → (TJ9 a).2.1 ≠ (TJ9 b).2.1 := by decide +kernel
theorem tyJ9_ok : ∀ k, k < 0 → parseFieldDescriptor (TJ9 k).2.2.1 = some (tyJ9 k) := by decide +kernel
abbrev cJ9_max_7cf53 : ByteArray := prog_24_method_65_code
def yJ9_max_7cf53 : MethodName := ⟨RJ9, "max", "(II)I"⟩
abbrev cJ9_min_7cf53 : ByteArray := prog_24_method_69_code
def yJ9_min_7cf53 : MethodName := ⟨RJ9, "min", "(II)I"⟩
def RJ0 : String := "java/lang/String"
def TJ0 : u_T := fun k => match k with
  | _ => ("", "", "", false)
def tyJ0 : Nat → FieldType := fun k => match k with
  | _ => .int
abbrev wsJ00 : List Cond := u_ws RJ0 TJ0 0
theorem nmJ0 : ∀ a, a < 0 → ∀ b, b < 0 → a ≠ b → (TJ0 a).2.1 ≠ (TJ0 b).2.1 := by decide +kernel
theorem tyJ0_ok : ∀ k, k < 0 → parseFieldDescriptor (TJ0 k).2.2.1 = some (tyJ0 k) := by decide +kernel
abbrev cJ0_length_8abf5 : ByteArray := prog_26_method_54_code
def yJ0_length_8abf5 : MethodName := ⟨RJ0, "length", "()I"⟩
abbrev cJ0_charAt_5068e : ByteArray := prog_26_method_56_code
def yJ0_charAt_5068e : MethodName := ⟨RJ0, "charAt", "(I)C"⟩
abbrev cJ0_coder_7d493 : ByteArray := prog_26_method_152_code
def yJ0_coder_7d493 : MethodName := ⟨RJ0, "coder", "()B"⟩
abbrev cJ0_isLatin1_aae02 : ByteArray := prog_26_method_154_code
def yJ0_isLatin1_aae02 : MethodName := ⟨RJ0, "isLatin1", "()Z"⟩
abbrev cJ0_checkIndex_df160 : ByteArray := prog_26_method_155_code
def yJ0_checkIndex_df160 : MethodName := ⟨RJ0, "checkIndex", "(II)V"⟩
def RJ1 : String := "java/lang/StringLatin1"
def TJ1 : u_T := fun k => match k with
  | _ => ("", "", "", false)
def tyJ1 : Nat → FieldType := fun k => match k with
  | _ => .int
abbrev wsJ10 : List Cond := u_ws RJ1 TJ1 0
theorem nmJ1 : ∀ a, a < 0 → ∀ b, b < 0 → a ≠ b → (TJ1 a).2.1 ≠ (TJ1 b).2.1 := by decide +kernel
theorem tyJ1_ok : ∀ k, k < 0 → parseFieldDescriptor (TJ1 k).2.2.1 = some (tyJ1 k) := by decide +kernel
abbrev cJ1_charAt_3b067 : ByteArray := prog_27_method_2_code
def yJ1_charAt_3b067 : MethodName := ⟨RJ1, "charAt", "([BI)C"⟩
def RJ2 : String := "java/lang/StringUTF16"
def TJ2 : u_T := fun k => match k with
  | _ => ("", "", "", false)
def tyJ2 : Nat → FieldType := fun k => match k with
  | _ => .int
abbrev wsJ20 : List Cond := u_ws RJ2 TJ2 0
theorem nmJ2 : ∀ a, a < 0 → ∀ b, b < 0 → a ≠ b → (TJ2 a).2.1 ≠ (TJ2 b).2.1 := by decide +kernel
theorem tyJ2_ok : ∀ k, k < 0 → parseFieldDescriptor (TJ2 k).2.2.1 = some (tyJ2 k) := by decide +kernel
abbrev cJ2_getChar_3b067 : ByteArray := prog_28_method_5_code
def yJ2_getChar_3b067 : MethodName := ⟨RJ2, "getChar", "([BI)C"⟩
abbrev cJ2_length_9d52b : ByteArray := prog_28_method_6_code
def yJ2_length_9d52b : MethodName := ⟨RJ2, "length", "([B)I"⟩
abbrev cJ2_charAt_3b067 : ByteArray := prog_28_method_83_code
def yJ2_charAt_3b067 : MethodName := ⟨RJ2, "charAt", "([BI)C"⟩
abbrev cJ2_checkIndex_2214a : ByteArray := prog_28_method_91_code
def yJ2_checkIndex_2214a : MethodName := ⟨RJ2, "checkIndex", "(I[B)V"⟩
def RJ10 : String := "java/lang/System"
def TJ10 : u_T := fun k => match k with
  | _ => ("", "", "", false)
def tyJ10 : Nat → FieldType := fun k => match k with
  | _ => .int
abbrev wsJ100 : List Cond := u_ws RJ10 TJ10 0
theorem nmJ10 : ∀ a, a < 0 → ∀ b, b < 0 → a ≠ b → (TJ10 a).2.1 ≠ (TJ10 b).2.1 := by decide +kernel
theorem tyJ10_ok : ∀ k, k < 0 → parseFieldDescriptor (TJ10 k).2.2.1 = some (tyJ10 k) := by decide +kernel
def RJxfd54e : String := "java/lang/constant/Constable"
def TJxfd54e : u_T := fun k => match k with
  | _ => ("", "", "", false)
def tyJxfd54e : Nat → FieldType := fun k => match k with
  | _ => .int
abbrev wsJxfd54e0 : List Cond := u_ws RJxfd54e TJxfd54e 0
theorem nmJxfd54e : ∀ a, a < 0 → ∀ b, b < 0 → a ≠ b → (TJxfd54e a).2.1 ≠ (TJxfd54e b).2.1 := by decide +kernel
theorem tyJxfd54e_ok : ∀ k, k < 0 → parseFieldDescriptor (TJxfd54e k).2.2.1 = some (tyJxfd54e k) := by decide +kernel
def RJx3cf43 : String := "java/lang/constant/ConstantDesc"
def TJx3cf43 : u_T := fun k => match k with
  | _ => ("", "", "", false)
def tyJx3cf43 : Nat → FieldType := fun k => match k with
  | _ => .int
abbrev wsJx3cf430 : List Cond := u_ws RJx3cf43 TJx3cf43 0
theorem nmJx3cf43 : ∀ a, a < 0 → ∀ b, b < 0 → a ≠ b → (TJx3cf43 a).2.1 ≠ (TJx3cf43 b).2.1 := by decide +kernel
theorem tyJx3cf43_ok : ∀ k, k < 0 → parseFieldDescriptor (TJx3cf43 k).2.2.1 = some (tyJx3cf43 k) := by decide +kernel
def RJxa1e45 : String := "java/util/AbstractCollection"
def TJxa1e45 : u_T := fun k => match k with
  | _ => ("", "", "", false)
def tyJxa1e45 : Nat → FieldType := fun k => match k with
  | _ => .int
abbrev wsJxa1e450 : List Cond := u_ws RJxa1e45 TJxa1e45 0
theorem nmJxa1e45 : ∀ a, a < 0 → ∀ b, b < 0 → a ≠ b → (TJxa1e45 a).2.1 ≠ (TJxa1e45 b).2.1 := by decide +kernel
theorem tyJxa1e45_ok : ∀ k, k < 0 → parseFieldDescriptor (TJxa1e45 k).2.2.1 = some (tyJxa1e45 k) := by decide +kernel
abbrev cJxa1e45_init_da8c8 : ByteArray := prog_33_method_1_code
def yJxa1e45_init_da8c8 : MethodName := ⟨RJxa1e45, "<init>", "()V"⟩
def RJxc12de : String := "java/util/AbstractList"
def TJxc12de : u_T := fun k => match k with
  | _ => ("", "", "", false)
def tyJxc12de : Nat → FieldType := fun k => match k with
  | _ => .int
abbrev wsJxc12de0 : List Cond := u_ws RJxc12de TJxc12de 0
theorem nmJxc12de : ∀ a, a < 0 → ∀ b, b < 0 → a ≠ b → (TJxc12de a).2.1 ≠ (TJxc12de b).2.1 := by decide +kernel
theorem tyJxc12de_ok : ∀ k, k < 0 → parseFieldDescriptor (TJxc12de k).2.2.1 = some (tyJxc12de k) := by decide +kernel
abbrev cJxc12de_init_da8c8 : ByteArray := prog_34_method_1_code
def yJxc12de_init_da8c8 : MethodName := ⟨RJxc12de, "<init>", "()V"⟩
def RJx4a65c : String := "java/util/ArrayList"
def TJx4a65c : u_T := fun k => match k with
  | 0 => ("java/util/AbstractList", "modCount", "I", false)
  | 1 => ("java/util/ArrayList", "elementData", "[Ljava/lang/Object;", false)
  | _ => ("java/util/ArrayList", "size", "I", false)
def tyJx4a65c : Nat → FieldType := fun k => match k with
  | 0 => .int
  | 1 => .array (.object "java/lang/Object")
  | _ => .int
abbrev wsJx4a65c0 : List Cond := u_ws RJx4a65c TJx4a65c 3
theorem nmJx4a65c : ∀ a, a < 3 → ∀ b, b < 3 → a ≠ b → (TJx4a65c a).2.1 ≠ (TJx4a65c b).2.1 := by decide +kernel
theorem tyJx4a65c_ok : ∀ k, k < 3 → parseFieldDescriptor (TJx4a65c k).2.2.1 = some (tyJx4a65c k) := by decide +kernel
abbrev cJx4a65c_init_da8c8 : ByteArray := prog_35_method_2_code
def yJx4a65c_init_da8c8 : MethodName := ⟨RJx4a65c, "<init>", "()V"⟩
abbrev cJx4a65c_grow_92f84 : ByteArray := prog_35_method_6_code
def yJx4a65c_grow_92f84 : MethodName := ⟨RJx4a65c, "grow", "(I)[Ljava/lang/Object;"⟩
abbrev cJx4a65c_grow_d5877 : ByteArray := prog_35_method_7_code
def yJx4a65c_grow_d5877 : MethodName := ⟨RJx4a65c, "grow", "()[Ljava/lang/Object;"⟩
abbrev cJx4a65c_size_8abf5 : ByteArray := prog_35_method_8_code
def yJx4a65c_size_8abf5 : MethodName := ⟨RJx4a65c, "size", "()I"⟩
abbrev cJx4a65c_elementData_915e3 : ByteArray := prog_35_method_18_code
def yJx4a65c_elementData_915e3 : MethodName := ⟨RJx4a65c, "elementData", "(I)Ljava/lang/Object;"⟩
abbrev cJx4a65c_get_915e3 : ByteArray := prog_35_method_20_code
def yJx4a65c_get_915e3 : MethodName := ⟨RJx4a65c, "get", "(I)Ljava/lang/Object;"⟩
abbrev cJx4a65c_add_72be8 : ByteArray := prog_35_method_24_code
def yJx4a65c_add_72be8 : MethodName := ⟨RJx4a65c, "add", "(Ljava/lang/Object;[Ljava/lang/Object;I)V"⟩
abbrev cJx4a65c_add_9ea2d : ByteArray := prog_35_method_25_code
def yJx4a65c_add_9ea2d : MethodName := ⟨RJx4a65c, "add", "(Ljava/lang/Object;)Z"⟩
def RJ7 : String := "java/util/Arrays"
def TJ7 : u_T := fun k => match k with
  | _ => ("", "", "", false)
def tyJ7 : Nat → FieldType := fun k => match k with
  | _ => .int
abbrev wsJ70 : List Cond := u_ws RJ7 TJ7 0
theorem nmJ7 : ∀ a, a < 0 → ∀ b, b < 0 → a ≠ b → (TJ7 a).2.1 ≠ (TJ7 b).2.1 := by decide +kernel
theorem tyJ7_ok : ∀ k, k < 0 → parseFieldDescriptor (TJ7 k).2.2.1 = some (tyJ7 k) := by decide +kernel
abbrev cJ7_copyOf_1904c : ByteArray := prog_36_method_119_code
def yJ7_copyOf_1904c : MethodName := ⟨RJ7, "copyOf", "([Ljava/lang/Object;I)[Ljava/lang/Object;"⟩
abbrev cJ7_copyOf_6403c : ByteArray := prog_36_method_120_code
def yJ7_copyOf_6403c : MethodName := ⟨RJ7, "copyOf", "([Ljava/lang/Object;ILjava/lang/Class;)[Ljava/lang/Object;"⟩
def RJx5ef63 : String := "java/util/Collection"
def TJx5ef63 : u_T := fun k => match k with
  | _ => ("", "", "", false)
def tyJx5ef63 : Nat → FieldType := fun k => match k with
  | _ => .int
abbrev wsJx5ef630 : List Cond := u_ws RJx5ef63 TJx5ef63 0
theorem nmJx5ef63 : ∀ a, a < 0 → ∀ b, b < 0 → a ≠ b → (TJx5ef63 a).2.1 ≠ (TJx5ef63 b).2.1 := by decide +kernel
theorem tyJx5ef63_ok : ∀ k, k < 0 → parseFieldDescriptor (TJx5ef63 k).2.2.1 = some (tyJx5ef63 k) := by decide +kernel
def RJxbd725 : String := "java/util/List"
def TJxbd725 : u_T := fun k => match k with
  | _ => ("", "", "", false)
def tyJxbd725 : Nat → FieldType := fun k => match k with
  | _ => .int
abbrev wsJxbd7250 : List Cond := u_ws RJxbd725 TJxbd725 0
theorem nmJxbd725 : ∀ a, a < 0 → ∀ b, b < 0 → a ≠ b → (TJxbd725 a).2.1 ≠ (TJxbd725 b).2.1 := by decide +kernel
theorem tyJxbd725_ok : ∀ k, k < 0 → parseFieldDescriptor (TJxbd725 k).2.2.1 = some (tyJxbd725 k) := by decide +kernel
def RJ15 : String := "java/util/Objects"
def TJ15 : u_T := fun k => match k with
  | _ => ("", "", "", false)
def tyJ15 : Nat → FieldType := fun k => match k with
  | _ => .int
abbrev wsJ150 : List Cond := u_ws RJ15 TJ15 0
theorem nmJ15 : ∀ a, a < 0 → ∀ b, b < 0 → a ≠ b → (TJ15 a).2.1 ≠ (TJ15 b).2.1 := by decide +kernel
theorem tyJ15_ok : ∀ k, k < 0 → parseFieldDescriptor (TJ15 k).2.2.1 = some (tyJ15 k) := by decide +kernel
abbrev cJ15_checkIndex_7cf53 : ByteArray := prog_39_method_17_code
def yJ15_checkIndex_7cf53 : MethodName := ⟨RJ15, "checkIndex", "(II)I"⟩
def RJxf0a74 : String := "java/util/RandomAccess"
def TJxf0a74 : u_T := fun k => match k with
  | _ => ("", "", "", false)
def tyJxf0a74 : Nat → FieldType := fun k => match k with
  | _ => .int
abbrev wsJxf0a740 : List Cond := u_ws RJxf0a74 TJxf0a74 0
theorem nmJxf0a74 : ∀ a, a < 0 → ∀ b, b < 0 → a ≠ b → (TJxf0a74 a).2.1 ≠ (TJxf0a74 b).2.1 := by decide +kernel
theorem tyJxf0a74_ok : ∀ k, k < 0 → parseFieldDescriptor (TJxf0a74 k).2.2.1 = some (tyJxf0a74 k) := by decide +kernel
def RJxa66e6 : String := "java/util/SequencedCollection"
def TJxa66e6 : u_T := fun k => match k with
  | _ => ("", "", "", false)
def tyJxa66e6 : Nat → FieldType := fun k => match k with
  | _ => .int
abbrev wsJxa66e60 : List Cond := u_ws RJxa66e6 TJxa66e6 0
theorem nmJxa66e6 : ∀ a, a < 0 → ∀ b, b < 0 → a ≠ b → (TJxa66e6 a).2.1 ≠ (TJxa66e6 b).2.1 := by decide +kernel
theorem tyJxa66e6_ok : ∀ k, k < 0 → parseFieldDescriptor (TJxa66e6 k).2.2.1 = some (tyJxa66e6 k) := by decide +kernel
def RJ8 : String := "jdk/internal/util/ArraysSupport"
def TJ8 : u_T := fun k => match k with
  | _ => ("", "", "", false)
def tyJ8 : Nat → FieldType := fun k => match k with
  | _ => .int
abbrev wsJ80 : List Cond := u_ws RJ8 TJ8 0
theorem nmJ8 : ∀ a, a < 0 → ∀ b, b < 0 → a ≠ b → (TJ8 a).2.1 ≠ (TJ8 b).2.1 := by decide +kernel
theorem tyJ8_ok : ∀ k, k < 0 → parseFieldDescriptor (TJ8 k).2.2.1 = some (tyJ8 k) := by decide +kernel
abbrev cJ8_newLength_cabcc : ByteArray := prog_42_method_27_code
def yJ8_newLength_cabcc : MethodName := ⟨RJ8, "newLength", "(III)I"⟩
abbrev cJ8_hugeLength_7cf53 : ByteArray := prog_42_method_28_code
def yJ8_hugeLength_7cf53 : MethodName := ⟨RJ8, "hugeLength", "(II)I"⟩
def RJ3 : String := "jdk/internal/util/Preconditions"
def TJ3 : u_T := fun k => match k with
  | _ => ("", "", "", false)
def tyJ3 : Nat → FieldType := fun k => match k with
  | _ => .int
abbrev wsJ30 : List Cond := u_ws RJ3 TJ3 0
theorem nmJ3 : ∀ a, a < 0 → ∀ b, b < 0 → a ≠ b → (TJ3 a).2.1 ≠ (TJ3 b).2.1 := by decide +kernel
theorem tyJ3_ok : ∀ k, k < 0 → parseFieldDescriptor (TJ3 k).2.2.1 = some (tyJ3 k) := by decide +kernel
abbrev cJ3_checkIndex_8e157 : ByteArray := prog_43_method_11_code
def yJ3_checkIndex_8e157 : MethodName := ⟨RJ3, "checkIndex", "(IILjava/util/function/BiFunction;)I"⟩
def RL : String := "PreparedPlansLaw"
abbrev cL_load : ByteArray := method_3_code
def yL_load : MethodName := ⟨RL, "load", "(LPreparedPlans;I[J)I"⟩
abbrev cL_count : ByteArray := method_4_code
def yL_count : MethodName := ⟨RL, "count", "(LPreparedPlans;I[J)I"⟩
abbrev cL_column : ByteArray := method_5_code
def yL_column : MethodName := ⟨RL, "column", "(LPreparedPlans;II[J)I"⟩
abbrev cL_value : ByteArray := method_6_code
def yL_value : MethodName := ⟨RL, "value", "(LPreparedPlans;II[J)I"⟩
abbrev cL_named : ByteArray := method_7_code
def yL_named : MethodName := ⟨RL, "named", "(LPreparedPlans;I[J)I"⟩
abbrev cL_hole : ByteArray := method_8_code
def yL_hole : MethodName := ⟨RL, "hole", "(LPreparedPlans;II[J)I"⟩
abbrev cL_statement : ByteArray := method_9_code
def yL_statement : MethodName := ⟨RL, "statement", "(LPreparedPlans;II[J)I"⟩
abbrev cL_learned : ByteArray := method_10_code
def yL_learned : MethodName := ⟨RL, "learned", "(LPreparedPlans;II[J)I"⟩
abbrev cL_kept : ByteArray := method_11_code
def yL_kept : MethodName := ⟨RL, "kept", "(LPreparedPlans;I[J)I"⟩
abbrev cL_genericCost : ByteArray := method_12_code
def yL_genericCost : MethodName := ⟨RL, "genericCost", "(LPreparedPlans;II[J)I"⟩
abbrev cL_special : ByteArray := method_13_code
def yL_special : MethodName := ⟨RL, "special", "(LPreparedPlans;IIIII[J)I"⟩
abbrev cL_specialCost : ByteArray := method_14_code
def yL_specialCost : MethodName := ⟨RL, "specialCost", "(LPreparedPlans;IIIIII[J)I"⟩
abbrev cL_wouldUse : ByteArray := method_15_code
def yL_wouldUse : MethodName := ⟨RL, "wouldUse", "(LPreparedPlans;IIIII[J)I"⟩
abbrev cL_rows : ByteArray := method_16_code
def yL_rows : MethodName := ⟨RL, "rows", "(LPreparedPlans;IIIII[J)I"⟩
abbrev cL_run : ByteArray := method_17_code
def yL_run : MethodName := ⟨RL, "run", "(LPreparedPlans;IIIII[J)I"⟩
abbrev cL_insert : ByteArray := method_18_code
def yL_insert : MethodName := ⟨RL, "insert", "(LPreparedPlans;IIIII[J)I"⟩
abbrev cL_delete : ByteArray := method_19_code
def yL_delete : MethodName := ⟨RL, "delete", "(LPreparedPlans;I[J)I"⟩
abbrev cL_setIndex : ByteArray := method_20_code
def yL_setIndex : MethodName := ⟨RL, "setIndex", "(LPreparedPlans;IZ[J)I"⟩
abbrev cL_law : ByteArray := code
def yL_law : MethodName := ⟨RL, "law", "([I)Z"⟩
abbrev vwCl : List vw_C := [(RJx4a65c, TJx4a65c, 3), (RX0, TX0, 4), (RX1, TX1, 2), (RX3, TX3, 7), (RX4, TX4, 4), (RX5, TX5, 8), (RX6, TX6, 6), (RX7, TX7, 4), (RX8, TX8, 8), (RX9, TX9, 9), (RX10, TX10, 7), (RX11, TX11, 20)]
end
section
/-! ===== an abstract machine over the kit's rows: cells have names, a method's body has one judgement (x_W), a method one contract (x_M) ===== -/
/-- a cell: an object (its class's place in vwCl, its fields) or an array (may it be written, its type, its length, what it holds); references are names -/
abbrev XC : Type := (Nat × (Nat → Value)) ⊕ (Bool × FieldType × Nat × (Nat → Value))
abbrev XH : Type := Nat → Option XC
/-- a method's instructions: pc, instruction, next pc, target -/
abbrev XK : Type := List (Nat × Instr × Nat × Nat)
/-- own class, name, bytes, locals, return, handlers, instructions -/
abbrev XMI : Type := String × MethodName × ByteArray × Nat × Option FieldType × List (Nat × Nat × Nat × Nat) × XK
/-- launch, the law's start, class numbers, slots, array classes, the addresses of the fixed names -/
abbrev XE : Type := Launch × State × (Nat → ClassId) × (Nat → Nat → Nat) × (FieldType → ClassId) × (Nat → Nat)
def x_tr (ad : Nat → Nat) (v : Value) : Value := match v with
  | .ref k => .ref (ad k)
  | v => v
def x_vok (nb : Nat) (v : Value) : Prop := match v with
  | .ref k => k < nb
  | _ => True
def x_cok (nb : Nat) (c : XC) : Prop := match c with
  | .inl (ci, V) => ∀ r : vw_C, vwCl[ci]? = some r → ∀ j, j < r.2.2 → x_vok nb (V j)
  | .inr (_, _, n, f) => ∀ j, j < n → x_vok nb (f j)
def x_tys : List FieldType := [.int, .long, .byte, .boolean, .object "PreparedPlans$Data", .object "PreparedPlans$Usage", .object "java/lang/Object"]
def x_n0 (G : XE) : Nat := G.2.1.heap.size
def x_A (G : XE) : Nat → Prop := fun q => x_n0 G ≤ q
def x_cell (G : XE) (ad : Nat → Nat) (a : Nat) (c : XC) (H : Heap) : Prop := match c with
  | .inl (ci, V) => x_n0 G ≤ a ∧ ∃ r : vw_C, vwCl[ci]? = some r ∧ t_OB a (G.2.2.1 ci) r.2.2 (G.2.2.2.1 ci) H (fun k => x_tr ad (V k))
  | .inr (mu, ty, n, f) => (mu = true → x_n0 G ≤ a) ∧ ty ∈ x_tys ∧ H[a]? = some (arrV (G.2.2.2.2.1 ty) n (fun j => x_tr ad (f j)))
/-- the named cells are there, at addresses that are apart; what they refer to is named below nb; the fixed names lie where they lie -/
def x_R (G : XE) (ad : Nat → Nat) (nb : Nat) (N : XH) (H : Heap) : Prop :=
  (∀ (k : Nat) (c : XC), N k = some c → k < nb ∧ x_cok nb c ∧ x_cell G ad (ad k) c H) ∧ (∀ (i j : Nat) (ci cj : XC), N i = some ci → N j = some cj → ad i = ad j → i = j) ∧ (∀ k, k < 64 → ad k = G.2.2.2.2.2 k) ∧ 64 ≤ nb
def x_ext (nb : Nat) (ad ad' : Nat → Nat) : Prop := ∀ k, k < nb → ad' k = ad k
def x_set (N : XH) (o : Nat) (c : XC) : XH := fun k => if k = o then some c else N k
def x_L (ad : Nat → Nat) (nb nL : Nat) (L : List (Option Value)) (ls : Array Slot) : Prop :=
  (ls.size = nL ∧ L.length ≤ nL) ∧ lv_wf ls ∧ ∀ (i : Nat) (v : Value), L[i]? = some (some v) → ls[i]? = some (.val (x_tr ad v)) ∧ x_vok nb v
def x_kept (G : XE) (H : Heap) : Prop := x_n0 G ≤ H.size ∧ ∀ q, q < x_n0 G → H[q]? = G.2.1.heap[q]?
/-- the words that hold in every state -/
def x_T : List Cond := lw_tbl.filter goodWord
abbrev x_own (M : XMI) : String := M.1
abbrev x_y (M : XMI) : MethodName := M.2.1
abbrev x_by (M : XMI) : ByteArray := M.2.2.1
abbrev x_nL (M : XMI) : Nat := M.2.2.2.1
abbrev x_ret (M : XMI) : Option FieldType := M.2.2.2.2.1
abbrev x_hh (M : XMI) : List (Nat × Nat × Nat × Nat) := M.2.2.2.2.2.1
abbrev x_k (M : XMI) : XK := M.2.2.2.2.2.2
def x_len : Instr → Nat
  | .bipush _ | .iload _ | .lload _ | .aload _ | .istore _ | .lstore _ | .astore _ | .ldc _ | .newarray _ => 2
  | .sipush _ | .iinc _ _ | .ifCond _ _ | .if_icmp _ _ | .if_acmp _ _ | .goto _ | .ifnull _ | .ifnonnull _ | .getfield _ | .putfield _ | .getstatic _ | .putstatic _ | .invokevirtual _ | .invokespecial _ | .invokestatic _ | .new _ | .anewarray _ | .checkcast _ | .instanceof _ | .ldc_w _ | .ldc2_w _ => 3
  | .tableswitch _ _ _ _ | .lookupswitch _ _ => 0
  | _ => 1
def x_off : Instr → Option Int
  | .ifCond _ o | .if_icmp _ o | .if_acmp _ o | .goto o | .ifnull o | .ifnonnull o => some o
  | _ => none
def x_okE (b : ByteArray) (e : Nat × Instr × Nat × Nat) : Bool :=
  decide (decode b e.1 = .ok (e.2.1, e.2.2.1 - e.1)) && decide (e.1 ≤ e.2.2.1) && (x_len e.2.1 == 0 || x_len e.2.1 == e.2.2.1 - e.1) && (match x_off e.2.1 with | some o => decide ((e.1 : Int) + o = (e.2.2.2 : Int)) | none => true)
def x_okK (b : ByteArray) (K : XK) : Bool := K.all (x_okE b)
def x_at : XK → Nat → Option (Instr × Nat × Nat)
  | [], _ => none
  | e :: t, k => bif Nat.beq e.1 k then some e.2 else x_at t k
theorem x_at_mem : ∀ (K : XK) (k : Nat) (r : Instr × Nat × Nat), x_at K k = some r → (k, r) ∈ K
  | [], k, r, h => by cases h
  | e :: t, k, r, h => by
    unfold x_at at h
    cases hb : Nat.beq e.1 k with
    | true =>
      rw [hb] at h
      have h1 : e.2 = r := Option.some.inj h
      have h2 : e.1 = k := Nat.eq_of_beq_eq_true hb
      rw [← h1, ← h2]
      exact List.mem_cons_self
    | false =>
      rw [hb] at h
      exact List.mem_cons_of_mem _ (x_at_mem t k r h)
theorem x_dec {b : ByteArray} {K : XK} (ok : x_okK b K = true) {pc pc' t : Nat} {i : Instr} (h : x_at K pc = some (i, pc', t)) : decode b pc = .ok (i, pc' - pc) ∧ pc ≤ pc' ∧ (x_len i = 0 ∨ x_len i = pc' - pc) ∧ (∀ o, x_off i = some o → (pc : Int) + o = (t : Int)) := by
  have h1 := List.all_eq_true.mp ok _ (x_at_mem K pc _ h)
  simp only [x_okE, Bool.and_eq_true, decide_eq_true_eq, Bool.or_eq_true, beq_iff_eq] at h1
  obtain ⟨⟨⟨h2, h3⟩, h4⟩, h5⟩ := h1
  refine ⟨h2, h3, h4, fun o ho => ?_⟩
  rw [ho] at h5
  exact of_decide_eq_true h5
theorem x_decn {b : ByteArray} {K : XK} (ok : x_okK b K = true) {pc pc' t n : Nat} {i : Instr} (h : x_at K pc = some (i, pc', t)) (hn : x_len i = n + 1) : decode b pc = .ok (i, n + 1) ∧ pc' = pc + (n + 1) := by
  obtain ⟨h1, h2, h3, -⟩ := x_dec ok h
  rcases h3 with h3 | h3
  · omega
  · have e : pc' - pc = n + 1 := by omega
    rw [e] at h1
    exact ⟨h1, by omega⟩
/-- what is known of the law's start: the classes, the arrays' classes, the tables' words, the launch -/
def x_Kn (G : XE) : Prop :=
  (∀ (c : Nat) (q : vw_C), vwCl[c]? = some q → u_Kn G.2.1 q.1 q.2.1 q.2.2 (G.2.2.1 c) (G.2.2.2.1 c)) ∧ (∀ ty, ty ∈ x_tys → ArrOfT G.2.1 (G.2.2.2.2.1 ty) ty ∧ va_RA G.2.1 (G.2.2.2.2.1 ty) ty) ∧ ((∀ w ∈ lw_tbl, w.onTables = true → va_Nw w G.2.1) ∧ ∀ C, Cond.arrayOver (.object C) ∈ lw_tbl → va_AO C G.2.1) ∧ G.1.stackTraces = false ∧
  vx_Zq Bundle.tN "UNASSIGNED_STACK" Bundle.steD (x_A G) G.2.1 G.2.1.heap ∧ vx_Zq Bundle.tN "SUPPRESSED_SENTINEL" Bundle.listD (x_A G) G.2.1 G.2.1.heap
/-- what holds all through a method's body -/
def x_B (G : XE) (M : XMI) (p : Program) (s : State) (m : MethodId) (args : Array Value) (meth : Method) (c : Code) : Prop :=
  p.tables.exec = Jvm.exec ∧ c.code = x_by M ∧ c.maxLocals = x_nL M ∧ meth.sig.returnType = x_ret M ∧ meth.locks = false ∧ s.vm.findClass (x_own M) = some m.cls ∧ (∀ w ∈ x_T, w.before args s = true) ∧ G.2.1.WarmedH s.vm ∧ x_kept G s.heap ∧ c.exceptionTable.toList = tableOf (x_hh M) ∧ meth.name = (x_y M).name ∧ x_Kn G ∧ x_okK (x_by M) (x_k M) = true
/-- room, the addresses and the names' bound at the start, the end -/
abbrev XZ : Type := Room × (Nat → Nat) × Nat × (List Frame → Array Value → State → State → Prop)
/-- from this frame and these cells, the method comes to its end -/
def x_W (G : XE) (M : XMI) (Z : XZ) (N : XH) (cells slots pc : Nat) (L : List (Option Value)) (st : List Value) : Prop :=
  ∀ (p : Program) (e : Env) (s : State) (m : MethodId) (args : Array Value) (below : List Frame) (meth : Method) (c : Code) (ad : Nat → Nat) (nb : Nat) (H : Heap) (locs : List Loc) (ls : Array Slot),
    x_B G M p s m args meth c → x_R G ad nb N H → Z.2.2.1 ≤ nb → x_ext Z.2.2.1 Z.2.1 ad → va_S (x_A G) s.heap H locs → x_L ad nb (x_nL M) L ls → (∀ v ∈ st, x_vok nb v) →
    W p G.1 e Z.1 s m args below meth c H locs cells slots (Z.2.2.2 below args s) (F0 m pc ls (st.map (x_tr ad)))
def x_Qc (G : XE) (ad0 : Nat → Nat) (nb0 : Nat) (Qn : XH → Option Value → Prop) : Array Value → State → Outcome → State → Prop := fun _ st o t =>
  (∃ (ad : Nat → Nat) (nb : Nat) (N : XH) (r : Option Value), o = .returned (r.map (x_tr ad)) ∧ nb0 ≤ nb ∧ x_ext nb0 ad0 ad ∧ x_R G ad nb N t.heap ∧ (∀ v, r = some v → x_vok nb v) ∧ Qn N r) ∧ va_F (x_A G) st t
def x_XC (G : XE) (ad0 : Nat → Nat) (nb0 : Nat) (Qx : XH → String → Prop) : String → State → State → Prop := fun E st t =>
  (∃ (ad : Nat → Nat) (nb : Nat) (N : XH), nb0 ≤ nb ∧ x_ext nb0 ad0 ad ∧ x_R G ad nb N t.heap ∧ Qx N E) ∧ va_F (x_A G) st t
def x_rm (d mc ms : Nat) : Room := { frames := d, cells := mc, slots := ms, locals := 100 * d }
def x_Z (G : XE) (d mc ms : Nat) (ad0 : Nat → Nat) (nb0 : Nat) (Qn : XH → Option Value → Prop) (Qx : XH → String → Prop) : XZ :=
  (x_rm d mc ms, ad0, nb0, fun below args s => vx_MQ below (x_Qc G ad0 nb0 Qn) (x_XC G ad0 nb0 Qx) args s mc ms (x_A G))
def x_ws (M : XMI) : List Cond := (match x_hh M with | [] => Cond.code (x_y M) (x_by M) (x_nL M) (x_ret M) | hh => Cond.codeWith (x_y M) (x_by M) (x_nL M) (x_ret M) hh) :: x_T
def x_Pc (G : XE) (ad : Nat → Nat) (nb : Nat) (args : List Value) (N : XH) : Array Value → State → Prop := fun a U =>
  a = (args.map (x_tr ad)).toArray ∧ (∀ v ∈ args, x_vok nb v) ∧ G.2.1.WarmedH U.vm ∧ x_kept G U.heap ∧ x_R G ad nb N U.heap
/-- the contract of a call with these arguments over these cells: at most d frames deep, mc cells of ms slots -/
def x_M (G : XE) (M : XMI) (d mc ms : Nat) (args : List Value) (N : XH) (Qn : XH → Option Value → Prop) (Qx : XH → String → Prop) : Prop :=
  ∀ (ad : Nat → Nat) (nb : Nat), vx_Met G.1 (x_y M) (x_ws M) (x_rm d mc ms) (x_Pc G ad nb args N) (x_Qc G ad nb Qn) (x_XC G ad nb Qx) mc ms (x_A G)
/-! laws of names and cells -/
theorem x_tr_ext {nb : Nat} {ad ad' : Nat → Nat} (h : x_ext nb ad ad') {v : Value} (hv : x_vok nb v) : x_tr ad' v = x_tr ad v := by
  cases v with
  | ref k => exact congrArg Value.ref (h k hv)
  | _ => rfl
theorem x_vok_mono {nb nb' : Nat} (h : nb ≤ nb') {v : Value} (hv : x_vok nb v) : x_vok nb' v := by
  cases v with
  | ref k => exact Nat.lt_of_lt_of_le hv h
  | _ => trivial
theorem x_cok_mono {nb nb' : Nat} (h : nb ≤ nb') {c : XC} (hc : x_cok nb c) : x_cok nb' c := by
  rcases c with ⟨ci, V⟩ | ⟨mu, ty, n, f⟩
  · exact fun r hr j hj => x_vok_mono h (hc r hr j hj)
  · exact fun j hj => x_vok_mono h (hc j hj)
theorem x_map_ext {nb : Nat} {ad ad' : Nat → Nat} (h : x_ext nb ad ad') {st : List Value} (hv : ∀ v ∈ st, x_vok nb v) : st.map (x_tr ad') = st.map (x_tr ad) :=
  List.map_congr_left fun v hm => x_tr_ext h (hv v hm)
theorem x_L_ext {nb nb' nL : Nat} {ad ad' : Nat → Nat} (h : x_ext nb ad ad') (hn : nb ≤ nb') {L : List (Option Value)} {ls : Array Slot} (hl : x_L ad nb nL L ls) : x_L ad' nb' nL L ls :=
  ⟨hl.1, hl.2.1, fun i v hi => ⟨by rw [x_tr_ext h (hl.2.2 i v hi).2]; exact (hl.2.2 i v hi).1, x_vok_mono hn (hl.2.2 i v hi).2⟩⟩
theorem arrV_ext (cA : ClassId) (n : Nat) {f g : Nat → Value} (h : ∀ j, j < n → f j = g j) : arrV cA n f = arrV cA n g := by
  unfold arrV
  congr 1
  apply Array.ext_getElem?
  intro i
  by_cases hi : i < n
  · simp [hi, h i hi]
  · simp [hi]
theorem x_cell_ext {G : XE} {nb a : Nat} {ad ad' : Nat → Nat} (h : x_ext nb ad ad') {c : XC} {H : Heap} (hc : x_cok nb c) (hl : x_cell G ad a c H) : x_cell G ad' a c H := by
  rcases c with ⟨ci, V⟩ | ⟨mu, ty, n, f⟩
  · obtain ⟨h1, r, h2, h3⟩ := hl
    exact ⟨h1, r, h2, h3.to fun k hk => (x_tr_ext h (hc r h2 k hk)).symm⟩
  · obtain ⟨h1, h2, h3⟩ := hl
    refine ⟨h1, h2, ?_⟩
    rw [h3]
    exact congrArg some (arrV_ext _ n fun j hj => (x_tr_ext h (hc j hj)).symm)
theorem x_cell_kept {G : XE} {a : Nat} {ad : Nat → Nat} {c : XC} {H H' : Heap} (hl : x_cell G ad a c H) (hq : H'[a]? = H[a]?) : x_cell G ad a c H' := by
  rcases c with ⟨ci, V⟩ | ⟨mu, ty, n, f⟩
  · obtain ⟨h1, r, h2, h3⟩ := hl
    exact ⟨h1, r, h2, h3.kept hq⟩
  · obtain ⟨h1, h2, h3⟩ := hl
    exact ⟨h1, h2, hq.trans h3⟩
theorem x_cell_lt {G : XE} {a : Nat} {ad : Nat → Nat} {c : XC} {H : Heap} (hl : x_cell G ad a c H) : a < H.size := by
  rcases c with ⟨ci, V⟩ | ⟨mu, ty, n, f⟩
  · obtain ⟨-, r, -, cell, h3, -⟩ := hl
    exact (Array.getElem?_eq_some_iff.mp h3).1
  · exact (Array.getElem?_eq_some_iff.mp hl.2.2).1
theorem x_R_put {G : XE} {ad : Nat → Nat} {nb o : Nat} {N : XH} {H H' : Heap} {c c' : XC} (h : x_R G ad nb N H) (hN : N o = some c) (hc : x_cok nb c') (hl : x_cell G ad (ad o) c' H') (hq : ∀ q, q ≠ ad o → H'[q]? = H[q]?) : x_R G ad nb (x_set N o c') H' := by
  obtain ⟨h1, h2, h3, h4⟩ := h
  have old : ∀ k d, x_set N o c' k = some d → k ≠ o → N k = some d := fun k d hk hne => by
    unfold x_set at hk
    rwa [if_neg hne] at hk
  have dom : ∀ k d, x_set N o c' k = some d → ∃ d', N k = some d' := fun k d hk => by
    by_cases e : k = o
    · exact ⟨c, by rw [e]; exact hN⟩
    · exact ⟨d, old k d hk e⟩
  refine ⟨fun k d hk => ?_, fun i j ci cj hi hj he => ?_, h3, h4⟩
  · by_cases e : k = o
    · subst e
      have : d = c' := by
        unfold x_set at hk
        rw [if_pos rfl] at hk
        exact (Option.some.inj hk).symm
      subst this
      exact ⟨(h1 k c hN).1, hc, hl⟩
    · have hk' := old k d hk e
      obtain ⟨a1, a2, a3⟩ := h1 k d hk'
      exact ⟨a1, a2, x_cell_kept a3 (hq _ fun z => e (h2 k o d c hk' hN z))⟩
  · obtain ⟨di, hi'⟩ := dom i ci hi
    obtain ⟨dj, hj'⟩ := dom j cj hj
    exact h2 i j di dj hi' hj' he
/-- a new name for a new cell -/
def x_adn (ad : Nat → Nat) (nb a : Nat) : Nat → Nat := fun k => if k = nb then a else ad k
theorem x_adn_ext (ad : Nat → Nat) (nb a : Nat) : x_ext nb ad (x_adn ad nb a) := fun k hk => by
  unfold x_adn
  rw [if_neg (Nat.ne_of_lt hk)]
theorem x_R_new {G : XE} {ad : Nat → Nat} {nb a : Nat} {N : XH} {H H' : Heap} {c : XC} (h : x_R G ad nb N H) (ha : H.size = a) (hc : x_cok nb c) (hl : x_cell G ad a c H') (hq : ∀ q, q < a → H'[q]? = H[q]?) : x_R G (x_adn ad nb a) (nb + 1) (x_set N nb c) H' ∧ N nb = none := by
  obtain ⟨h1, h2, h3, h4⟩ := h
  have hno : N nb = none := by
    cases e : N nb with
    | none => rfl
    | some d => exact absurd (h1 nb d e).1 (Nat.lt_irrefl _)
  have old : ∀ k d, x_set N nb c k = some d → k ≠ nb → N k = some d := fun k d hk hne => by
    unfold x_set at hk
    rwa [if_neg hne] at hk
  have at0 : x_adn ad nb a nb = a := by
    unfold x_adn
    rw [if_pos rfl]
  have at1 : ∀ k, k ≠ nb → x_adn ad nb a k = ad k := fun k hk => by
    unfold x_adn
    rw [if_neg hk]
  have lt : ∀ k d, N k = some d → ad k < a := fun k d hk => by
    rw [← ha]
    exact x_cell_lt (h1 k d hk).2.2
  refine ⟨⟨fun k d hk => ?_, fun i j ci cj hi hj he => ?_, fun k hk => ?_, Nat.le_succ_of_le h4⟩, hno⟩
  · by_cases e : k = nb
    · subst e
      have : d = c := by
        unfold x_set at hk
        rw [if_pos rfl] at hk
        exact (Option.some.inj hk).symm
      subst this
      refine ⟨Nat.lt_succ_self _, x_cok_mono (Nat.le_succ _) hc, ?_⟩
      rw [at0]
      exact x_cell_ext (x_adn_ext ad k a) hc hl
    · have hk' := old k d hk e
      obtain ⟨a1, a2, a3⟩ := h1 k d hk'
      refine ⟨Nat.lt_succ_of_lt a1, x_cok_mono (Nat.le_succ _) a2, ?_⟩
      rw [at1 k e]
      exact x_cell_ext (x_adn_ext ad nb a) a2 (x_cell_kept a3 (hq _ (lt k d hk')))
  · by_cases ei : i = nb
    · by_cases ej : j = nb
      · rw [ei, ej]
      · exfalso
        rw [ei, at0, at1 j ej] at he
        have := lt j cj (old j cj hj ej)
        omega
    · by_cases ej : j = nb
      · exfalso
        rw [ej, at0, at1 i ei] at he
        have := lt i ci (old i ci hi ei)
        omega
      · rw [at1 i ei, at1 j ej] at he
        exact h2 i j ci cj (old i ci hi ei) (old j cj hj ej) he
  · rw [at1 k (by omega)]
    exact h3 k hk
/-- fewer cells, under other names -/
theorem x_R_sub {G : XE} {ad : Nat → Nat} {nb : Nat} {N N' : XH} {H : Heap} (h : x_R G ad nb N H) (hs : ∀ k c, N' k = some c → N k = some c) : x_R G ad nb N' H :=
  ⟨fun k c hk => h.1 k c (hs k c hk), fun i j ci cj hi hj => h.2.1 i j ci cj (hs i ci hi) (hs j cj hj), h.2.2.1, h.2.2.2⟩
end
section
/-! ===== rows of the abstract machine: constants, locals, arithmetic, the stack, branches ===== -/
def x_loc : List (Option Value) → Nat → Option Value
  | [], _ => none
  | v :: _, 0 => v
  | _ :: t, n + 1 => x_loc t n
theorem x_loc_get : ∀ (L : List (Option Value)) (i : Nat) (v : Value), x_loc L i = some v ↔ L[i]? = some (some v)
  | [], i, v => by simp [x_loc]
  | a :: t, 0, v => by simp [x_loc]
  | a :: t, i + 1, v => by
    rw [List.getElem?_cons_succ]
    exact x_loc_get t i v
theorem x_loc_lt {L : List (Option Value)} {i : Nat} {v : Value} (h : x_loc L i = some v) : i < L.length := (List.getElem?_eq_some_iff.mp ((x_loc_get L i v).mp h)).1
def x_nl (a : Option Value) : Bool := match a with
  | some (.long _) | some (.double _) => false
  | _ => true
theorem x_nl_cat {a : Value} (h : x_nl (some a) = true) : a.category = 1 := by
  cases a <;> first | rfl | cases h
def x_put1 (v : Value) : Nat → List (Option Value) → Option (List (Option Value))
  | 0, _ :: t => some (some v :: t)
  | 1, a0 :: _ :: t => bif x_nl a0 then some (a0 :: some v :: t) else none
  | 2, a0 :: a1 :: _ :: t => bif x_nl a1 then some (a0 :: a1 :: some v :: t) else none
  | 3, a0 :: a1 :: a2 :: _ :: t => bif x_nl a2 then some (a0 :: a1 :: a2 :: some v :: t) else none
  | 4, a0 :: a1 :: a2 :: a3 :: _ :: t => bif x_nl a3 then some (a0 :: a1 :: a2 :: a3 :: some v :: t) else none
  | 5, a0 :: a1 :: a2 :: a3 :: a4 :: _ :: t => bif x_nl a4 then some (a0 :: a1 :: a2 :: a3 :: a4 :: some v :: t) else none
  | 6, a0 :: a1 :: a2 :: a3 :: a4 :: a5 :: _ :: t => bif x_nl a5 then some (a0 :: a1 :: a2 :: a3 :: a4 :: a5 :: some v :: t) else none
  | 7, a0 :: a1 :: a2 :: a3 :: a4 :: a5 :: a6 :: _ :: t => bif x_nl a6 then some (a0 :: a1 :: a2 :: a3 :: a4 :: a5 :: a6 :: some v :: t) else none
  | 8, a0 :: a1 :: a2 :: a3 :: a4 :: a5 :: a6 :: a7 :: _ :: t => bif x_nl a7 then some (a0 :: a1 :: a2 :: a3 :: a4 :: a5 :: a6 :: a7 :: some v :: t) else none
  | 9, a0 :: a1 :: a2 :: a3 :: a4 :: a5 :: a6 :: a7 :: a8 :: _ :: t => bif x_nl a8 then some (a0 :: a1 :: a2 :: a3 :: a4 :: a5 :: a6 :: a7 :: a8 :: some v :: t) else none
  | 10, a0 :: a1 :: a2 :: a3 :: a4 :: a5 :: a6 :: a7 :: a8 :: a9 :: _ :: t => bif x_nl a9 then some (a0 :: a1 :: a2 :: a3 :: a4 :: a5 :: a6 :: a7 :: a8 :: a9 :: some v :: t) else none
  | 11, a0 :: a1 :: a2 :: a3 :: a4 :: a5 :: a6 :: a7 :: a8 :: a9 :: a10 :: _ :: t => bif x_nl a10 then some (a0 :: a1 :: a2 :: a3 :: a4 :: a5 :: a6 :: a7 :: a8 :: a9 :: a10 :: some v :: t) else none
  | 12, a0 :: a1 :: a2 :: a3 :: a4 :: a5 :: a6 :: a7 :: a8 :: a9 :: a10 :: a11 :: _ :: t => bif x_nl a11 then some (a0 :: a1 :: a2 :: a3 :: a4 :: a5 :: a6 :: a7 :: a8 :: a9 :: a10 :: a11 :: some v :: t) else none
  | 13, a0 :: a1 :: a2 :: a3 :: a4 :: a5 :: a6 :: a7 :: a8 :: a9 :: a10 :: a11 :: a12 :: _ :: t => bif x_nl a12 then some (a0 :: a1 :: a2 :: a3 :: a4 :: a5 :: a6 :: a7 :: a8 :: a9 :: a10 :: a11 :: a12 :: some v :: t) else none
  | 14, a0 :: a1 :: a2 :: a3 :: a4 :: a5 :: a6 :: a7 :: a8 :: a9 :: a10 :: a11 :: a12 :: a13 :: _ :: t => bif x_nl a13 then some (a0 :: a1 :: a2 :: a3 :: a4 :: a5 :: a6 :: a7 :: a8 :: a9 :: a10 :: a11 :: a12 :: a13 :: some v :: t) else none
  | 15, a0 :: a1 :: a2 :: a3 :: a4 :: a5 :: a6 :: a7 :: a8 :: a9 :: a10 :: a11 :: a12 :: a13 :: a14 :: _ :: t => bif x_nl a14 then some (a0 :: a1 :: a2 :: a3 :: a4 :: a5 :: a6 :: a7 :: a8 :: a9 :: a10 :: a11 :: a12 :: a13 :: a14 :: some v :: t) else none
  | _, _ => none
def x_put2 (v : Value) : Nat → List (Option Value) → Option (List (Option Value))
  | 0, _ :: _ :: t => some (some v :: none :: t)
  | 1, a0 :: _ :: _ :: t => bif x_nl a0 then some (a0 :: some v :: none :: t) else none
  | 2, a0 :: a1 :: _ :: _ :: t => bif x_nl a1 then some (a0 :: a1 :: some v :: none :: t) else none
  | 3, a0 :: a1 :: a2 :: _ :: _ :: t => bif x_nl a2 then some (a0 :: a1 :: a2 :: some v :: none :: t) else none
  | 4, a0 :: a1 :: a2 :: a3 :: _ :: _ :: t => bif x_nl a3 then some (a0 :: a1 :: a2 :: a3 :: some v :: none :: t) else none
  | 5, a0 :: a1 :: a2 :: a3 :: a4 :: _ :: _ :: t => bif x_nl a4 then some (a0 :: a1 :: a2 :: a3 :: a4 :: some v :: none :: t) else none
  | 6, a0 :: a1 :: a2 :: a3 :: a4 :: a5 :: _ :: _ :: t => bif x_nl a5 then some (a0 :: a1 :: a2 :: a3 :: a4 :: a5 :: some v :: none :: t) else none
  | 7, a0 :: a1 :: a2 :: a3 :: a4 :: a5 :: a6 :: _ :: _ :: t => bif x_nl a6 then some (a0 :: a1 :: a2 :: a3 :: a4 :: a5 :: a6 :: some v :: none :: t) else none
  | 8, a0 :: a1 :: a2 :: a3 :: a4 :: a5 :: a6 :: a7 :: _ :: _ :: t => bif x_nl a7 then some (a0 :: a1 :: a2 :: a3 :: a4 :: a5 :: a6 :: a7 :: some v :: none :: t) else none
  | 9, a0 :: a1 :: a2 :: a3 :: a4 :: a5 :: a6 :: a7 :: a8 :: _ :: _ :: t => bif x_nl a8 then some (a0 :: a1 :: a2 :: a3 :: a4 :: a5 :: a6 :: a7 :: a8 :: some v :: none :: t) else none
  | 10, a0 :: a1 :: a2 :: a3 :: a4 :: a5 :: a6 :: a7 :: a8 :: a9 :: _ :: _ :: t => bif x_nl a9 then some (a0 :: a1 :: a2 :: a3 :: a4 :: a5 :: a6 :: a7 :: a8 :: a9 :: some v :: none :: t) else none
  | 11, a0 :: a1 :: a2 :: a3 :: a4 :: a5 :: a6 :: a7 :: a8 :: a9 :: a10 :: _ :: _ :: t => bif x_nl a10 then some (a0 :: a1 :: a2 :: a3 :: a4 :: a5 :: a6 :: a7 :: a8 :: a9 :: a10 :: some v :: none :: t) else none
  | 12, a0 :: a1 :: a2 :: a3 :: a4 :: a5 :: a6 :: a7 :: a8 :: a9 :: a10 :: a11 :: _ :: _ :: t => bif x_nl a11 then some (a0 :: a1 :: a2 :: a3 :: a4 :: a5 :: a6 :: a7 :: a8 :: a9 :: a10 :: a11 :: some v :: none :: t) else none
  | 13, a0 :: a1 :: a2 :: a3 :: a4 :: a5 :: a6 :: a7 :: a8 :: a9 :: a10 :: a11 :: a12 :: _ :: _ :: t => bif x_nl a12 then some (a0 :: a1 :: a2 :: a3 :: a4 :: a5 :: a6 :: a7 :: a8 :: a9 :: a10 :: a11 :: a12 :: some v :: none :: t) else none
  | 14, a0 :: a1 :: a2 :: a3 :: a4 :: a5 :: a6 :: a7 :: a8 :: a9 :: a10 :: a11 :: a12 :: a13 :: _ :: _ :: t => bif x_nl a13 then some (a0 :: a1 :: a2 :: a3 :: a4 :: a5 :: a6 :: a7 :: a8 :: a9 :: a10 :: a11 :: a12 :: a13 :: some v :: none :: t) else none
  | 15, a0 :: a1 :: a2 :: a3 :: a4 :: a5 :: a6 :: a7 :: a8 :: a9 :: a10 :: a11 :: a12 :: a13 :: a14 :: _ :: _ :: t => bif x_nl a14 then some (a0 :: a1 :: a2 :: a3 :: a4 :: a5 :: a6 :: a7 :: a8 :: a9 :: a10 :: a11 :: a12 :: a13 :: a14 :: some v :: none :: t) else none
  | _, _ => none
theorem x_bif {α : Type} {b : Bool} {x y : α} (h : (bif b then some x else none) = some y) : b = true ∧ x = y := by
  cases b with
  | true => exact ⟨rfl, Option.some.inj h⟩
  | false => cases h
theorem x_put1_eq {v : Value} {k : Nat} {L L' : List (Option Value)} (h : x_put1 v k L = some L') : L' = L.set k (some v) ∧ k < L.length ∧ (k = 0 ∨ ∃ j a, k = j + 1 ∧ L[j]? = some a ∧ x_nl a = true) := by
  unfold x_put1 at h
  split at h
  · cases h
    exact ⟨rfl, by simp, Or.inl rfl⟩
  · obtain ⟨h1, h2⟩ := x_bif h
    subst h2
    exact ⟨rfl, by simp, Or.inr ⟨0, _, rfl, rfl, h1⟩⟩
  · obtain ⟨h1, h2⟩ := x_bif h
    subst h2
    exact ⟨rfl, by simp, Or.inr ⟨1, _, rfl, rfl, h1⟩⟩
  · obtain ⟨h1, h2⟩ := x_bif h
    subst h2
    exact ⟨rfl, by simp, Or.inr ⟨2, _, rfl, rfl, h1⟩⟩
  · obtain ⟨h1, h2⟩ := x_bif h
    subst h2
    exact ⟨rfl, by simp, Or.inr ⟨3, _, rfl, rfl, h1⟩⟩
  · obtain ⟨h1, h2⟩ := x_bif h
    subst h2
    exact ⟨rfl, by simp, Or.inr ⟨4, _, rfl, rfl, h1⟩⟩
  · obtain ⟨h1, h2⟩ := x_bif h
    subst h2
    exact ⟨rfl, by simp, Or.inr ⟨5, _, rfl, rfl, h1⟩⟩
  · obtain ⟨h1, h2⟩ := x_bif h
    subst h2
    exact ⟨rfl, by simp, Or.inr ⟨6, _, rfl, rfl, h1⟩⟩
  · obtain ⟨h1, h2⟩ := x_bif h
    subst h2
    exact ⟨rfl, by simp, Or.inr ⟨7, _, rfl, rfl, h1⟩⟩
  · obtain ⟨h1, h2⟩ := x_bif h
    subst h2
    exact ⟨rfl, by simp, Or.inr ⟨8, _, rfl, rfl, h1⟩⟩
  · obtain ⟨h1, h2⟩ := x_bif h
    subst h2
    exact ⟨rfl, by simp, Or.inr ⟨9, _, rfl, rfl, h1⟩⟩
  · obtain ⟨h1, h2⟩ := x_bif h
    subst h2
    exact ⟨rfl, by simp, Or.inr ⟨10, _, rfl, rfl, h1⟩⟩
  · obtain ⟨h1, h2⟩ := x_bif h
    subst h2
    exact ⟨rfl, by simp, Or.inr ⟨11, _, rfl, rfl, h1⟩⟩
  · obtain ⟨h1, h2⟩ := x_bif h
    subst h2
    exact ⟨rfl, by simp, Or.inr ⟨12, _, rfl, rfl, h1⟩⟩
  · obtain ⟨h1, h2⟩ := x_bif h
    subst h2
    exact ⟨rfl, by simp, Or.inr ⟨13, _, rfl, rfl, h1⟩⟩
  · obtain ⟨h1, h2⟩ := x_bif h
    subst h2
    exact ⟨rfl, by simp, Or.inr ⟨14, _, rfl, rfl, h1⟩⟩
  · cases h
theorem x_put2_eq {v : Value} {k : Nat} {L L' : List (Option Value)} (h : x_put2 v k L = some L') : L' = (L.set k (some v)).set (k + 1) none ∧ k + 1 < L.length ∧ (k = 0 ∨ ∃ j a, k = j + 1 ∧ L[j]? = some a ∧ x_nl a = true) := by
  unfold x_put2 at h
  split at h
  · cases h
    exact ⟨rfl, by simp, Or.inl rfl⟩
  · obtain ⟨h1, h2⟩ := x_bif h
    subst h2
    exact ⟨rfl, by simp, Or.inr ⟨0, _, rfl, rfl, h1⟩⟩
  · obtain ⟨h1, h2⟩ := x_bif h
    subst h2
    exact ⟨rfl, by simp, Or.inr ⟨1, _, rfl, rfl, h1⟩⟩
  · obtain ⟨h1, h2⟩ := x_bif h
    subst h2
    exact ⟨rfl, by simp, Or.inr ⟨2, _, rfl, rfl, h1⟩⟩
  · obtain ⟨h1, h2⟩ := x_bif h
    subst h2
    exact ⟨rfl, by simp, Or.inr ⟨3, _, rfl, rfl, h1⟩⟩
  · obtain ⟨h1, h2⟩ := x_bif h
    subst h2
    exact ⟨rfl, by simp, Or.inr ⟨4, _, rfl, rfl, h1⟩⟩
  · obtain ⟨h1, h2⟩ := x_bif h
    subst h2
    exact ⟨rfl, by simp, Or.inr ⟨5, _, rfl, rfl, h1⟩⟩
  · obtain ⟨h1, h2⟩ := x_bif h
    subst h2
    exact ⟨rfl, by simp, Or.inr ⟨6, _, rfl, rfl, h1⟩⟩
  · obtain ⟨h1, h2⟩ := x_bif h
    subst h2
    exact ⟨rfl, by simp, Or.inr ⟨7, _, rfl, rfl, h1⟩⟩
  · obtain ⟨h1, h2⟩ := x_bif h
    subst h2
    exact ⟨rfl, by simp, Or.inr ⟨8, _, rfl, rfl, h1⟩⟩
  · obtain ⟨h1, h2⟩ := x_bif h
    subst h2
    exact ⟨rfl, by simp, Or.inr ⟨9, _, rfl, rfl, h1⟩⟩
  · obtain ⟨h1, h2⟩ := x_bif h
    subst h2
    exact ⟨rfl, by simp, Or.inr ⟨10, _, rfl, rfl, h1⟩⟩
  · obtain ⟨h1, h2⟩ := x_bif h
    subst h2
    exact ⟨rfl, by simp, Or.inr ⟨11, _, rfl, rfl, h1⟩⟩
  · obtain ⟨h1, h2⟩ := x_bif h
    subst h2
    exact ⟨rfl, by simp, Or.inr ⟨12, _, rfl, rfl, h1⟩⟩
  · obtain ⟨h1, h2⟩ := x_bif h
    subst h2
    exact ⟨rfl, by simp, Or.inr ⟨13, _, rfl, rfl, h1⟩⟩
  · obtain ⟨h1, h2⟩ := x_bif h
    subst h2
    exact ⟨rfl, by simp, Or.inr ⟨14, _, rfl, rfl, h1⟩⟩
  · cases h
def x_al (ad : Nat → Nat) (L : List (Option Value)) : List (Nat × Value) := (List.range L.length).filterMap fun i => (x_loc L i).map fun v => (i, x_tr ad v)
theorem x_al_mem {ad : Nat → Nat} {L : List (Option Value)} {q : Nat × Value} : q ∈ x_al ad L ↔ ∃ v, x_loc L q.1 = some v ∧ q.2 = x_tr ad v := by
  unfold x_al
  rw [List.mem_filterMap]
  constructor
  · rintro ⟨i, -, hi⟩
    cases hv : x_loc L i with
    | none => rw [hv] at hi; cases hi
    | some v =>
      rw [hv] at hi
      have := Option.some.inj hi
      subst this
      exact ⟨v, hv, rfl⟩
  · rintro ⟨v, hv, he⟩
    refine ⟨q.1, List.mem_range.mpr (x_loc_lt hv), ?_⟩
    rw [hv, Option.map_some, ← he]
theorem x_L_has {ad : Nat → Nat} {nb nL : Nat} {L : List (Option Value)} {ls : Array Slot} (h : x_L ad nb nL L ls) : lv_has ls nL (x_al ad L) :=
  ⟨h.1.1, h.2.1, fun q hq => by
    obtain ⟨v, h1, h2⟩ := x_al_mem.mp hq
    rw [h2]
    exact (h.2.2 q.1 v ((x_loc_get _ _ _).mp h1)).1⟩
theorem x_tr_cat (ad : Nat → Nat) (v : Value) : (x_tr ad v).category = v.category := by cases v <;> rfl
theorem x_L_put1 {ad : Nat → Nat} {nb nL k : Nat} {v : Value} {L L' : List (Option Value)} {ls ls' : Array Slot} (hl : x_L ad nb nL L ls) (hv : x_vok nb v) (h : x_put1 v k L = some L')
    (h' : lv_has ls' nL ((k, x_tr ad v) :: (x_al ad L).filter (fun q => !(q.1 == k) && !(q.1 + 1 == k && q.2.category == 2)))) : x_L ad nb nL L' ls' := by
  obtain ⟨h1, h2, h3⟩ := x_put1_eq h
  subst h1
  refine ⟨⟨h'.1, by simpa using hl.1.2⟩, h'.2.1, fun i w hi => ?_⟩
  by_cases e : i = k
  · subst e
    rw [List.getElem?_set_self h2] at hi
    cases hi
    exact ⟨h'.2.2 (i, x_tr ad v) List.mem_cons_self, hv⟩
  · rw [List.getElem?_set_ne (Ne.symm e)] at hi
    refine ⟨h'.2.2 (i, x_tr ad w) (List.mem_cons_of_mem _ (List.mem_filter.mpr ⟨x_al_mem.mpr ⟨w, (x_loc_get _ _ _).mpr hi, rfl⟩, ?_⟩)), (hl.2.2 i w hi).2⟩
    have e1 : (i == k) = false := by simpa using e
    rcases h3 with h3 | ⟨j, a, h3, h4, h5⟩
    · have e2 : (i + 1 == k) = false := by simp; omega
      simp [e1, e2]
    · by_cases ej : i = j
      · subst ej
        rw [hi] at h4
        cases h4
        have := x_nl_cat h5
        simp [e1, x_tr_cat, this]
      · have e2 : (i + 1 == k) = false := by simp; omega
        simp [e1, e2]
theorem x_L_put2 {ad : Nat → Nat} {nb nL k : Nat} {v : Value} {L L' : List (Option Value)} {ls ls' : Array Slot} (hl : x_L ad nb nL L ls) (hv : x_vok nb v) (h : x_put2 v k L = some L')
    (h' : lv_has ls' nL ((k, x_tr ad v) :: (x_al ad L).filter (fun q => !(q.1 == k) && (!(q.1 == k + 1) && !(q.1 + 1 == k && q.2.category == 2))))) : x_L ad nb nL L' ls' := by
  obtain ⟨h1, h2, h3⟩ := x_put2_eq h
  subst h1
  refine ⟨⟨h'.1, by simpa using hl.1.2⟩, h'.2.1, fun i w hi => ?_⟩
  by_cases e1 : i = k + 1
  · subst e1
    rw [List.getElem?_set_self (by simpa using h2)] at hi
    cases hi
  · rw [List.getElem?_set_ne (Ne.symm e1)] at hi
    by_cases e : i = k
    · subst e
      rw [List.getElem?_set_self (by omega)] at hi
      cases hi
      exact ⟨h'.2.2 (i, x_tr ad v) List.mem_cons_self, hv⟩
    · rw [List.getElem?_set_ne (Ne.symm e)] at hi
      refine ⟨h'.2.2 (i, x_tr ad w) (List.mem_cons_of_mem _ (List.mem_filter.mpr ⟨x_al_mem.mpr ⟨w, (x_loc_get _ _ _).mpr hi, rfl⟩, ?_⟩)), (hl.2.2 i w hi).2⟩
      have e3 : (i == k) = false := by simpa using e
      have e4 : (i == k + 1) = false := by simpa using e1
      rcases h3 with h3 | ⟨j, a, h3, h4, h5⟩
      · have e2 : (i + 1 == k) = false := by simp; omega
        simp [e3, e2, e4]
      · by_cases ej : i = j
        · subst ej
          rw [hi] at h4
          cases h4
          have := x_nl_cat h5
          simp [e3, e4, x_tr_cat, this]
        · have e2 : (i + 1 == k) = false := by simp; omega
          simp [e3, e2, e4]
def x_push : Instr → Option Value
  | .iconst n => some (.int (Int32.ofInt n))
  | .bipush n => some (.int (Int8.ofInt n).toInt32)
  | .sipush n => some (.int (Int16.ofInt n).toInt32)
  | .lconst n => some (.long (Int64.ofNat (n : Nat)))
  | .aconst_null => some .null
  | _ => none
def x_ldi : Instr → Option Nat
  | .iload_n k | .lload_n k | .aload_n k => some (k : Nat)
  | .iload k | .lload k | .aload k => some k
  | _ => none
def x_ldok : Instr → Value → Bool
  | .iload_n _, .int _ | .iload _, .int _ | .lload_n _, .long _ | .lload _, .long _ | .aload_n _, .ref _ | .aload _, .ref _ | .aload_n _, .null | .aload _, .null => true
  | _, _ => false
def x_sti : Instr → Value → Option Nat
  | .istore_n k, .int _ => some (k : Nat)
  | .istore k, .int _ => some k
  | .astore_n k, .ref _ => some (k : Nat)
  | .astore k, .ref _ => some k
  | .astore_n k, .null => some (k : Nat)
  | .astore k, .null => some k
  | _, _ => none
def x_stl : Instr → Option Nat
  | .lstore_n k => some (k : Nat)
  | .lstore k => some k
  | _ => none
/-- the upper operand is the second argument -/
def x_bin : Instr → Value → Value → Option Value
  | .iadd, .int x, .int y => some (.int (x + y))
  | .isub, .int x, .int y => some (.int (x - y))
  | .imul, .int x, .int y => some (.int (x * y))
  | .iand, .int x, .int y => some (.int (x &&& y))
  | .ior, .int x, .int y => some (.int (x ||| y))
  | .ixor, .int x, .int y => some (.int (x ^^^ y))
  | .ishl, .int x, .int y => some (.int (x <<< (y &&& 31)))
  | .ishr, .int x, .int y => some (.int (x >>> (y &&& 31)))
  | .ladd, .long x, .long y => some (.long (x + y))
  | .lsub, .long x, .long y => some (.long (x - y))
  | .lmul, .long x, .long y => some (.long (x * y))
  | .land, .long x, .long y => some (.long (x &&& y))
  | .lor, .long x, .long y => some (.long (x ||| y))
  | .lxor, .long x, .long y => some (.long (x ^^^ y))
  | .lushr, .long x, .int y => some (.long (x.toUInt64 >>> (y.toInt64.toUInt64 &&& Int64.toUInt64 63)).toInt64)
  | .lshl, .long x, .int y => some (.long (x <<< (y.toInt64 &&& 63)))
  | .lcmp, .long x, .long y => some (.int (lg_cmp x y))
  | _, _, _ => none
def x_un : Instr → Value → Option Value
  | .i2l, .int x => some (.long x.toInt64)
  | .l2i, .long x => some (.int x.toInt32)
  | .i2b, .int x => some (.int x.toInt8.toInt32)
  | .i2c, .int x => some (.int (x.toUInt32 % 65536).toInt32)
  | _, _ => none
end
section
/-! ===== the rows: pure instructions ===== -/
section XR1
variable {G : XE} {M : XMI} {Z : XZ} {N : XH} {cells slots pc pc' t : Nat} {L L' : List (Option Value)} {st : List Value} {i : Instr}
theorem X_push {v : Value} (hd : x_at (x_k M) pc = some (i, pc', t)) (hv : x_push i = some v) (kk : x_W G M Z N cells slots pc' L (v :: st)) : x_W G M Z N cells slots pc L st := by
  intro p e s m args below meth c ad nb H locs ls B hR hn he hS hl hvs
  have hx := B.1
  have hb := B.2.1
  have hok := B.2.2.2.2.2.2.2.2.2.2.2.2
  unfold x_push at hv
  split at hv
  · cases hv
    obtain ⟨d1, e1⟩ := x_decn hok hd (n := 0) rfl
    subst e1
    exact lv_iconst hx hb d1 rfl (kk p e s m args below meth c ad nb H locs ls B hR hn he hS hl (List.forall_mem_cons.mpr ⟨trivial, hvs⟩))
  · cases hv
    obtain ⟨d1, e1⟩ := x_decn hok hd (n := 1) rfl
    subst e1
    exact lv_bipush hx hb d1 rfl (kk p e s m args below meth c ad nb H locs ls B hR hn he hS hl (List.forall_mem_cons.mpr ⟨trivial, hvs⟩))
  · cases hv
    obtain ⟨d1, e1⟩ := x_decn hok hd (n := 2) rfl
    subst e1
    exact lv_sipush hx hb d1 rfl (kk p e s m args below meth c ad nb H locs ls B hR hn he hS hl (List.forall_mem_cons.mpr ⟨trivial, hvs⟩))
  · cases hv
    obtain ⟨d1, e1⟩ := x_decn hok hd (n := 0) rfl
    subst e1
    exact lv_lconst hx hb d1 rfl (kk p e s m args below meth c ad nb H locs ls B hR hn he hS hl (List.forall_mem_cons.mpr ⟨trivial, hvs⟩))
  · cases hv
    obtain ⟨d1, e1⟩ := x_decn hok hd (n := 0) rfl
    subst e1
    exact lv_null hx hb d1 (kk p e s m args below meth c ad nb H locs ls B hR hn he hS hl (List.forall_mem_cons.mpr ⟨trivial, hvs⟩))
  · cases hv
theorem X_ld {k : Nat} {v : Value} (hd : x_at (x_k M) pc = some (i, pc', t)) (hi : x_ldi i = some k) (hL : x_loc L k = some v) (ht : x_ldok i v = true) (kk : x_W G M Z N cells slots pc' L (v :: st)) : x_W G M Z N cells slots pc L st := by
  intro p e s m args below meth c ad nb H locs ls B hR hn he hS hl hvs
  have hx := B.1
  have hb := B.2.1
  have hok := B.2.2.2.2.2.2.2.2.2.2.2.2
  obtain ⟨g1, g2⟩ := hl.2.2 k v ((x_loc_get _ _ _).mp hL)
  have K := kk p e s m args below meth c ad nb H locs ls B hR hn he hS hl (List.forall_mem_cons.mpr ⟨g2, hvs⟩)
  unfold x_ldok at ht
  split at ht
  · cases hi
    obtain ⟨d1, e1⟩ := x_decn hok hd (n := 0) rfl
    subst e1
    exact lv_iload_n hx hb d1 rfl g1 K
  · cases hi
    obtain ⟨d1, e1⟩ := x_decn hok hd (n := 1) rfl
    subst e1
    exact lv_iload hx hb d1 g1 K
  · cases hi
    obtain ⟨d1, e1⟩ := x_decn hok hd (n := 0) rfl
    subst e1
    exact lv_lload_n hx hb d1 rfl g1 K
  · cases hi
    obtain ⟨d1, e1⟩ := x_decn hok hd (n := 1) rfl
    subst e1
    exact lv_lload hx hb d1 g1 K
  · cases hi
    obtain ⟨d1, e1⟩ := x_decn hok hd (n := 0) rfl
    subst e1
    exact lv_aload_n hx hb d1 rfl g1 K
  · cases hi
    obtain ⟨d1, e1⟩ := x_decn hok hd (n := 1) rfl
    subst e1
    exact lv_aload hx hb d1 g1 K
  · cases hi
    obtain ⟨d1, e1⟩ := x_decn hok hd (n := 0) rfl
    subst e1
    exact lv_aload_nN hx hb d1 rfl g1 K
  · cases hi
    obtain ⟨d1, e1⟩ := x_decn hok hd (n := 1) rfl
    subst e1
    exact lv_aloadN hx hb d1 g1 K
  · cases ht
theorem X_st {k : Nat} {v : Value} (hd : x_at (x_k M) pc = some (i, pc', t)) (hi : x_sti i v = some k) (hL : x_put1 v k L = some L') (kk : x_W G M Z N cells slots pc' L' st) : x_W G M Z N cells slots pc L (v :: st) := by
  intro p e s m args below meth c ad nb H locs ls B hR hn he hS hl hvs
  have hx := B.1
  have hb := B.2.1
  have hok := B.2.2.2.2.2.2.2.2.2.2.2.2
  obtain ⟨v1, v2⟩ := List.forall_mem_cons.mp hvs
  have hh := x_L_has hl
  have hlt : k < x_nL M := Nat.lt_of_lt_of_le (x_put1_eq hL).2.1 hl.1.2
  have K := fun ls' h' => kk p e s m args below meth c ad nb H locs ls' B hR hn he hS (x_L_put1 hl v1 hL h') v2
  unfold x_sti at hi
  split at hi
  · cases hi
    obtain ⟨d1, e1⟩ := x_decn hok hd (n := 0) rfl
    subst e1
    exact lv_istore_n hx hb d1 rfl hh hlt rfl K
  · cases hi
    obtain ⟨d1, e1⟩ := x_decn hok hd (n := 1) rfl
    subst e1
    exact lv_istore hx hb d1 hh hlt rfl K
  · cases hi
    obtain ⟨d1, e1⟩ := x_decn hok hd (n := 0) rfl
    subst e1
    exact lv_astore_n hx hb d1 rfl hh hlt rfl K
  · cases hi
    obtain ⟨d1, e1⟩ := x_decn hok hd (n := 1) rfl
    subst e1
    exact lv_astore hx hb d1 hh hlt rfl K
  · cases hi
    obtain ⟨d1, e1⟩ := x_decn hok hd (n := 0) rfl
    subst e1
    exact lv_astore_nN hx hb d1 rfl hh hlt rfl K
  · cases hi
    obtain ⟨d1, e1⟩ := x_decn hok hd (n := 1) rfl
    subst e1
    exact lv_astoreN hx hb d1 hh hlt rfl K
  · cases hi
theorem X_stl {k : Nat} {x : Int64} (hd : x_at (x_k M) pc = some (i, pc', t)) (hi : x_stl i = some k) (hL : x_put2 (.long x) k L = some L') (kk : x_W G M Z N cells slots pc' L' st) : x_W G M Z N cells slots pc L (.long x :: st) := by
  intro p e s m args below meth c ad nb H locs ls B hR hn he hS hl hvs
  have hx := B.1
  have hb := B.2.1
  have hok := B.2.2.2.2.2.2.2.2.2.2.2.2
  obtain ⟨v1, v2⟩ := List.forall_mem_cons.mp hvs
  have hh := x_L_has hl
  have hlt : k + 1 < x_nL M := Nat.lt_of_lt_of_le (x_put2_eq hL).2.1 hl.1.2
  have K := fun ls' h' => kk p e s m args below meth c ad nb H locs ls' B hR hn he hS (x_L_put2 hl v1 hL h') v2
  unfold x_stl at hi
  split at hi
  · cases hi
    obtain ⟨d1, e1⟩ := x_decn hok hd (n := 0) rfl
    subst e1
    exact lv_lstore_n hx hb d1 rfl hh hlt rfl K
  · cases hi
    obtain ⟨d1, e1⟩ := x_decn hok hd (n := 1) rfl
    subst e1
    exact lv_lstore hx hb d1 hh hlt rfl K
  · cases hi
theorem X_bin {x y v : Value} (hd : x_at (x_k M) pc = some (i, pc', t)) (hv : x_bin i x y = some v) (kk : x_W G M Z N cells slots pc' L (v :: st)) : x_W G M Z N cells slots pc L (y :: x :: st) := by
  intro p e s m args below meth c ad nb H locs ls B hR hn he hS hl hvs
  have hx := B.1
  have hb := B.2.1
  have hok := B.2.2.2.2.2.2.2.2.2.2.2.2
  have hvs2 := (List.forall_mem_cons.mp (List.forall_mem_cons.mp hvs).2).2
  unfold x_bin at hv
  split at hv
  · cases hv
    obtain ⟨d1, e1⟩ := x_decn hok hd (n := 0) rfl
    subst e1
    exact lv_iadd hx hb d1 (kk p e s m args below meth c ad nb H locs ls B hR hn he hS hl (List.forall_mem_cons.mpr ⟨trivial, hvs2⟩))
  · cases hv
    obtain ⟨d1, e1⟩ := x_decn hok hd (n := 0) rfl
    subst e1
    exact lv_isub hx hb d1 (kk p e s m args below meth c ad nb H locs ls B hR hn he hS hl (List.forall_mem_cons.mpr ⟨trivial, hvs2⟩))
  · cases hv
    obtain ⟨d1, e1⟩ := x_decn hok hd (n := 0) rfl
    subst e1
    exact lv_imul hx hb d1 (kk p e s m args below meth c ad nb H locs ls B hR hn he hS hl (List.forall_mem_cons.mpr ⟨trivial, hvs2⟩))
  · cases hv
    obtain ⟨d1, e1⟩ := x_decn hok hd (n := 0) rfl
    subst e1
    exact lv_iand hx hb d1 (kk p e s m args below meth c ad nb H locs ls B hR hn he hS hl (List.forall_mem_cons.mpr ⟨trivial, hvs2⟩))
  · cases hv
    obtain ⟨d1, e1⟩ := x_decn hok hd (n := 0) rfl
    subst e1
    exact lv_ior hx hb d1 (kk p e s m args below meth c ad nb H locs ls B hR hn he hS hl (List.forall_mem_cons.mpr ⟨trivial, hvs2⟩))
  · cases hv
    obtain ⟨d1, e1⟩ := x_decn hok hd (n := 0) rfl
    subst e1
    exact lv_ixor hx hb d1 (kk p e s m args below meth c ad nb H locs ls B hR hn he hS hl (List.forall_mem_cons.mpr ⟨trivial, hvs2⟩))
  · cases hv
    obtain ⟨d1, e1⟩ := x_decn hok hd (n := 0) rfl
    subst e1
    exact lv_ishl hx hb d1 (kk p e s m args below meth c ad nb H locs ls B hR hn he hS hl (List.forall_mem_cons.mpr ⟨trivial, hvs2⟩))
  · cases hv
    obtain ⟨d1, e1⟩ := x_decn hok hd (n := 0) rfl
    subst e1
    exact lv_ishr hx hb d1 (kk p e s m args below meth c ad nb H locs ls B hR hn he hS hl (List.forall_mem_cons.mpr ⟨trivial, hvs2⟩))
  · cases hv
    obtain ⟨d1, e1⟩ := x_decn hok hd (n := 0) rfl
    subst e1
    exact lv_ladd hx hb d1 (kk p e s m args below meth c ad nb H locs ls B hR hn he hS hl (List.forall_mem_cons.mpr ⟨trivial, hvs2⟩))
  · cases hv
    obtain ⟨d1, e1⟩ := x_decn hok hd (n := 0) rfl
    subst e1
    exact lv_lsub hx hb d1 (kk p e s m args below meth c ad nb H locs ls B hR hn he hS hl (List.forall_mem_cons.mpr ⟨trivial, hvs2⟩))
  · cases hv
    obtain ⟨d1, e1⟩ := x_decn hok hd (n := 0) rfl
    subst e1
    exact lv_lmul hx hb d1 (kk p e s m args below meth c ad nb H locs ls B hR hn he hS hl (List.forall_mem_cons.mpr ⟨trivial, hvs2⟩))
  · cases hv
    obtain ⟨d1, e1⟩ := x_decn hok hd (n := 0) rfl
    subst e1
    exact lv_land hx hb d1 (kk p e s m args below meth c ad nb H locs ls B hR hn he hS hl (List.forall_mem_cons.mpr ⟨trivial, hvs2⟩))
  · cases hv
    obtain ⟨d1, e1⟩ := x_decn hok hd (n := 0) rfl
    subst e1
    exact lv_lor hx hb d1 (kk p e s m args below meth c ad nb H locs ls B hR hn he hS hl (List.forall_mem_cons.mpr ⟨trivial, hvs2⟩))
  · cases hv
    obtain ⟨d1, e1⟩ := x_decn hok hd (n := 0) rfl
    subst e1
    exact lv_lxor hx hb d1 (kk p e s m args below meth c ad nb H locs ls B hR hn he hS hl (List.forall_mem_cons.mpr ⟨trivial, hvs2⟩))
  · cases hv
    obtain ⟨d1, e1⟩ := x_decn hok hd (n := 0) rfl
    subst e1
    exact lv_lushr hx hb d1 rfl (kk p e s m args below meth c ad nb H locs ls B hR hn he hS hl (List.forall_mem_cons.mpr ⟨trivial, hvs2⟩))
  · cases hv
    obtain ⟨d1, e1⟩ := x_decn hok hd (n := 0) rfl
    subst e1
    exact lv_lshl hx hb d1 rfl (kk p e s m args below meth c ad nb H locs ls B hR hn he hS hl (List.forall_mem_cons.mpr ⟨trivial, hvs2⟩))
  · cases hv
    obtain ⟨d1, e1⟩ := x_decn hok hd (n := 0) rfl
    subst e1
    exact W.lcmp hx hb d1 (kk p e s m args below meth c ad nb H locs ls B hR hn he hS hl (List.forall_mem_cons.mpr ⟨trivial, hvs2⟩))
  · cases hv
theorem X_un {x v : Value} (hd : x_at (x_k M) pc = some (i, pc', t)) (hv : x_un i x = some v) (kk : x_W G M Z N cells slots pc' L (v :: st)) : x_W G M Z N cells slots pc L (x :: st) := by
  intro p e s m args below meth c ad nb H locs ls B hR hn he hS hl hvs
  have hx := B.1
  have hb := B.2.1
  have hok := B.2.2.2.2.2.2.2.2.2.2.2.2
  have hvs2 := (List.forall_mem_cons.mp hvs).2
  unfold x_un at hv
  split at hv
  · cases hv
    obtain ⟨d1, e1⟩ := x_decn hok hd (n := 0) rfl
    subst e1
    exact lv_i2l hx hb d1 rfl (kk p e s m args below meth c ad nb H locs ls B hR hn he hS hl (List.forall_mem_cons.mpr ⟨trivial, hvs2⟩))
  · cases hv
    obtain ⟨d1, e1⟩ := x_decn hok hd (n := 0) rfl
    subst e1
    exact lv_l2i hx hb d1 rfl (kk p e s m args below meth c ad nb H locs ls B hR hn he hS hl (List.forall_mem_cons.mpr ⟨trivial, hvs2⟩))
  · cases hv
    obtain ⟨d1, e1⟩ := x_decn hok hd (n := 0) rfl
    subst e1
    exact lv_i2b hx hb d1 rfl (kk p e s m args below meth c ad nb H locs ls B hR hn he hS hl (List.forall_mem_cons.mpr ⟨trivial, hvs2⟩))
  · cases hv
    obtain ⟨d1, e1⟩ := x_decn hok hd (n := 0) rfl
    subst e1
    exact lv_i2c hx hb d1 rfl (kk p e s m args below meth c ad nb H locs ls B hR hn he hS hl (List.forall_mem_cons.mpr ⟨trivial, hvs2⟩))
  · cases hv
theorem X_idiv {x y : Int32} (hd : x_at (x_k M) pc = some (.idiv, pc', t)) (hy : ¬ y = 0) (kk : x_W G M Z N cells slots pc' L (.int (x / y) :: st)) : x_W G M Z N cells slots pc L (.int y :: .int x :: st) := by
  intro p e s m args below meth c ad nb H locs ls B hR hn he hS hl hvs
  obtain ⟨d1, e1⟩ := x_decn B.2.2.2.2.2.2.2.2.2.2.2.2 hd (n := 0) rfl
  subst e1
  have hvs2 := (List.forall_mem_cons.mp (List.forall_mem_cons.mp hvs).2).2
  exact lv_idiv B.1 B.2.1 d1 hy (kk p e s m args below meth c ad nb H locs ls B hR hn he hS hl (List.forall_mem_cons.mpr ⟨trivial, hvs2⟩))
theorem X_irem {x y : Int32} (hd : x_at (x_k M) pc = some (.irem, pc', t)) (hy : ¬ y = 0) (kk : x_W G M Z N cells slots pc' L (.int (x - x / y * y) :: st)) : x_W G M Z N cells slots pc L (.int y :: .int x :: st) := by
  intro p e s m args below meth c ad nb H locs ls B hR hn he hS hl hvs
  obtain ⟨d1, e1⟩ := x_decn B.2.2.2.2.2.2.2.2.2.2.2.2 hd (n := 0) rfl
  subst e1
  have hvs2 := (List.forall_mem_cons.mp (List.forall_mem_cons.mp hvs).2).2
  exact lv_irem B.1 B.2.1 d1 hy (kk p e s m args below meth c ad nb H locs ls B hR hn he hS hl (List.forall_mem_cons.mpr ⟨trivial, hvs2⟩))
theorem X_dup {v : Value} (hd : x_at (x_k M) pc = some (.dup, pc', t)) (hc : v.category = 1) (kk : x_W G M Z N cells slots pc' L (v :: v :: st)) : x_W G M Z N cells slots pc L (v :: st) := by
  intro p e s m args below meth c ad nb H locs ls B hR hn he hS hl hvs
  obtain ⟨d1, e1⟩ := x_decn B.2.2.2.2.2.2.2.2.2.2.2.2 hd (n := 0) rfl
  subst e1
  exact lv_dup B.1 B.2.1 d1 (by rw [x_tr_cat]; exact hc) (kk p e s m args below meth c ad nb H locs ls B hR hn he hS hl (List.forall_mem_cons.mpr ⟨hvs v List.mem_cons_self, hvs⟩))
theorem X_pop {v : Value} (hd : x_at (x_k M) pc = some (.pop, pc', t)) (hc : v.category = 1) (kk : x_W G M Z N cells slots pc' L st) : x_W G M Z N cells slots pc L (v :: st) := by
  intro p e s m args below meth c ad nb H locs ls B hR hn he hS hl hvs
  obtain ⟨d1, e1⟩ := x_decn B.2.2.2.2.2.2.2.2.2.2.2.2 hd (n := 0) rfl
  subst e1
  exact lv_pop B.1 B.2.1 d1 (by rw [x_tr_cat]; exact hc) (kk p e s m args below meth c ad nb H locs ls B hR hn he hS hl (List.forall_mem_cons.mp hvs).2)
theorem X_dup2 {v w : Value} (hd : x_at (x_k M) pc = some (.dup2, pc', t)) (hc : v.category = 1) (hc2 : w.category = 1) (kk : x_W G M Z N cells slots pc' L (v :: w :: v :: w :: st)) : x_W G M Z N cells slots pc L (v :: w :: st) := by
  intro p e s m args below meth c ad nb H locs ls B hR hn he hS hl hvs
  obtain ⟨d1, e1⟩ := x_decn B.2.2.2.2.2.2.2.2.2.2.2.2 hd (n := 0) rfl
  subst e1
  exact lv_dup2_11 B.1 B.2.1 d1 (by rw [x_tr_cat]; exact hc) (by rw [x_tr_cat]; exact hc2) (kk p e s m args below meth c ad nb H locs ls B hR hn he hS hl (List.forall_mem_cons.mpr ⟨hvs v List.mem_cons_self, List.forall_mem_cons.mpr ⟨hvs w (List.mem_cons_of_mem _ List.mem_cons_self), hvs⟩⟩))
theorem X_iinc {k : Nat} {n : Int} {x : Int32} (hd : x_at (x_k M) pc = some (.iinc k n, pc', t)) (hk : x_loc L k = some (.int x)) (hL : x_put1 (.int (x + Int32.ofInt n)) k L = some L') (kk : x_W G M Z N cells slots pc' L' st) : x_W G M Z N cells slots pc L st := by
  intro p e s m args below meth c ad nb H locs ls B hR hn he hS hl hvs
  obtain ⟨d1, e1⟩ := x_decn B.2.2.2.2.2.2.2.2.2.2.2.2 hd (n := 2) rfl
  subst e1
  obtain ⟨i0, hi0⟩ := List.getElem?_of_mem (x_al_mem.mpr ⟨_, hk, rfl⟩ : ((k, x_tr ad (.int x)) : Nat × Value) ∈ x_al ad L)
  have hlt : k < x_nL M := Nat.lt_of_lt_of_le (x_put1_eq hL).2.1 hl.1.2
  exact lv_iinc B.1 B.2.1 d1 (x_L_has hl) (k := i0) hi0 rfl hlt rfl (fun ls' h' => kk p e s m args below meth c ad nb H locs ls' B hR hn he hS (x_L_put1 hl (v := .int _) trivial hL h') hvs)
theorem X_goto {off : Int} (hd : x_at (x_k M) pc = some (.goto off, pc', t)) (kk : x_W G M Z N cells slots t L st) : x_W G M Z N cells slots pc L st := by
  intro p e s m args below meth c ad nb H locs ls B hR hn he hS hl hvs
  have hok := B.2.2.2.2.2.2.2.2.2.2.2.2
  obtain ⟨d1, e1⟩ := x_decn hok hd (n := 2) rfl
  exact lv_goto B.1 B.2.1 d1 ((x_dec hok hd).2.2.2 _ rfl) (kk p e s m args below meth c ad nb H locs ls B hR hn he hS hl hvs)
theorem X_if_eq {x : Int32} {off : Int} (hd : x_at (x_k M) pc = some (.ifCond .eq off, pc', t)) (kt : x = 0 → x_W G M Z N cells slots t L st) (kf : ¬ (x = 0) → x_W G M Z N cells slots pc' L st) : x_W G M Z N cells slots pc L (.int x :: st) := by
  intro p e s m args below meth c ad nb H locs ls B hR hn he hS hl hvs
  have hok := B.2.2.2.2.2.2.2.2.2.2.2.2
  obtain ⟨d1, e1⟩ := x_decn hok hd (n := 2) rfl
  subst e1
  have hv := (List.forall_mem_cons.mp hvs).2
  exact lv_if_eq B.1 B.2.1 d1 ((x_dec hok hd).2.2.2 _ rfl) (fun h => kt h p e s m args below meth c ad nb H locs ls B hR hn he hS hl hv) (fun h => kf h p e s m args below meth c ad nb H locs ls B hR hn he hS hl hv)
theorem X_icmp_eq {x y : Int32} {off : Int} (hd : x_at (x_k M) pc = some (.if_icmp .eq off, pc', t)) (kt : x = y → x_W G M Z N cells slots t L st) (kf : ¬ (x = y) → x_W G M Z N cells slots pc' L st) : x_W G M Z N cells slots pc L (.int y :: .int x :: st) := by
  intro p e s m args below meth c ad nb H locs ls B hR hn he hS hl hvs
  have hok := B.2.2.2.2.2.2.2.2.2.2.2.2
  obtain ⟨d1, e1⟩ := x_decn hok hd (n := 2) rfl
  subst e1
  have hv := (List.forall_mem_cons.mp (List.forall_mem_cons.mp hvs).2).2
  exact lv_icmp_eq B.1 B.2.1 d1 ((x_dec hok hd).2.2.2 _ rfl) (fun h => kt h p e s m args below meth c ad nb H locs ls B hR hn he hS hl hv) (fun h => kf h p e s m args below meth c ad nb H locs ls B hR hn he hS hl hv)
theorem X_if_ne {x : Int32} {off : Int} (hd : x_at (x_k M) pc = some (.ifCond .ne off, pc', t)) (kt : ¬ x = 0 → x_W G M Z N cells slots t L st) (kf : x = 0 → x_W G M Z N cells slots pc' L st) : x_W G M Z N cells slots pc L (.int x :: st) := by
  intro p e s m args below meth c ad nb H locs ls B hR hn he hS hl hvs
  have hok := B.2.2.2.2.2.2.2.2.2.2.2.2
  obtain ⟨d1, e1⟩ := x_decn hok hd (n := 2) rfl
  subst e1
  have hv := (List.forall_mem_cons.mp hvs).2
  exact lv_if_ne B.1 B.2.1 d1 ((x_dec hok hd).2.2.2 _ rfl) (fun h => kt h p e s m args below meth c ad nb H locs ls B hR hn he hS hl hv) (fun h => kf h p e s m args below meth c ad nb H locs ls B hR hn he hS hl hv)
theorem X_icmp_ne {x y : Int32} {off : Int} (hd : x_at (x_k M) pc = some (.if_icmp .ne off, pc', t)) (kt : ¬ x = y → x_W G M Z N cells slots t L st) (kf : x = y → x_W G M Z N cells slots pc' L st) : x_W G M Z N cells slots pc L (.int y :: .int x :: st) := by
  intro p e s m args below meth c ad nb H locs ls B hR hn he hS hl hvs
  have hok := B.2.2.2.2.2.2.2.2.2.2.2.2
  obtain ⟨d1, e1⟩ := x_decn hok hd (n := 2) rfl
  subst e1
  have hv := (List.forall_mem_cons.mp (List.forall_mem_cons.mp hvs).2).2
  exact lv_icmp_ne B.1 B.2.1 d1 ((x_dec hok hd).2.2.2 _ rfl) (fun h => kt h p e s m args below meth c ad nb H locs ls B hR hn he hS hl hv) (fun h => kf h p e s m args below meth c ad nb H locs ls B hR hn he hS hl hv)
theorem X_if_lt {x : Int32} {off : Int} (hd : x_at (x_k M) pc = some (.ifCond .lt off, pc', t)) (kt : x < 0 → x_W G M Z N cells slots t L st) (kf : ¬ (x < 0) → x_W G M Z N cells slots pc' L st) : x_W G M Z N cells slots pc L (.int x :: st) := by
  intro p e s m args below meth c ad nb H locs ls B hR hn he hS hl hvs
  have hok := B.2.2.2.2.2.2.2.2.2.2.2.2
  obtain ⟨d1, e1⟩ := x_decn hok hd (n := 2) rfl
  subst e1
  have hv := (List.forall_mem_cons.mp hvs).2
  exact lv_if_lt B.1 B.2.1 d1 ((x_dec hok hd).2.2.2 _ rfl) (fun h => kt h p e s m args below meth c ad nb H locs ls B hR hn he hS hl hv) (fun h => kf h p e s m args below meth c ad nb H locs ls B hR hn he hS hl hv)
theorem X_icmp_lt {x y : Int32} {off : Int} (hd : x_at (x_k M) pc = some (.if_icmp .lt off, pc', t)) (kt : x < y → x_W G M Z N cells slots t L st) (kf : ¬ (x < y) → x_W G M Z N cells slots pc' L st) : x_W G M Z N cells slots pc L (.int y :: .int x :: st) := by
  intro p e s m args below meth c ad nb H locs ls B hR hn he hS hl hvs
  have hok := B.2.2.2.2.2.2.2.2.2.2.2.2
  obtain ⟨d1, e1⟩ := x_decn hok hd (n := 2) rfl
  subst e1
  have hv := (List.forall_mem_cons.mp (List.forall_mem_cons.mp hvs).2).2
  exact lv_icmp_lt B.1 B.2.1 d1 ((x_dec hok hd).2.2.2 _ rfl) (fun h => kt h p e s m args below meth c ad nb H locs ls B hR hn he hS hl hv) (fun h => kf h p e s m args below meth c ad nb H locs ls B hR hn he hS hl hv)
theorem X_if_ge {x : Int32} {off : Int} (hd : x_at (x_k M) pc = some (.ifCond .ge off, pc', t)) (kt : 0 ≤ x → x_W G M Z N cells slots t L st) (kf : ¬ (0 ≤ x) → x_W G M Z N cells slots pc' L st) : x_W G M Z N cells slots pc L (.int x :: st) := by
  intro p e s m args below meth c ad nb H locs ls B hR hn he hS hl hvs
  have hok := B.2.2.2.2.2.2.2.2.2.2.2.2
  obtain ⟨d1, e1⟩ := x_decn hok hd (n := 2) rfl
  subst e1
  have hv := (List.forall_mem_cons.mp hvs).2
  exact lv_if_ge B.1 B.2.1 d1 ((x_dec hok hd).2.2.2 _ rfl) (fun h => kt h p e s m args below meth c ad nb H locs ls B hR hn he hS hl hv) (fun h => kf h p e s m args below meth c ad nb H locs ls B hR hn he hS hl hv)
theorem X_icmp_ge {x y : Int32} {off : Int} (hd : x_at (x_k M) pc = some (.if_icmp .ge off, pc', t)) (kt : y ≤ x → x_W G M Z N cells slots t L st) (kf : ¬ (y ≤ x) → x_W G M Z N cells slots pc' L st) : x_W G M Z N cells slots pc L (.int y :: .int x :: st) := by
  intro p e s m args below meth c ad nb H locs ls B hR hn he hS hl hvs
  have hok := B.2.2.2.2.2.2.2.2.2.2.2.2
  obtain ⟨d1, e1⟩ := x_decn hok hd (n := 2) rfl
  subst e1
  have hv := (List.forall_mem_cons.mp (List.forall_mem_cons.mp hvs).2).2
  exact lv_icmp_ge B.1 B.2.1 d1 ((x_dec hok hd).2.2.2 _ rfl) (fun h => kt h p e s m args below meth c ad nb H locs ls B hR hn he hS hl hv) (fun h => kf h p e s m args below meth c ad nb H locs ls B hR hn he hS hl hv)
theorem X_if_gt {x : Int32} {off : Int} (hd : x_at (x_k M) pc = some (.ifCond .gt off, pc', t)) (kt : 0 < x → x_W G M Z N cells slots t L st) (kf : ¬ (0 < x) → x_W G M Z N cells slots pc' L st) : x_W G M Z N cells slots pc L (.int x :: st) := by
  intro p e s m args below meth c ad nb H locs ls B hR hn he hS hl hvs
  have hok := B.2.2.2.2.2.2.2.2.2.2.2.2
  obtain ⟨d1, e1⟩ := x_decn hok hd (n := 2) rfl
  subst e1
  have hv := (List.forall_mem_cons.mp hvs).2
  exact lv_if_gt B.1 B.2.1 d1 ((x_dec hok hd).2.2.2 _ rfl) (fun h => kt h p e s m args below meth c ad nb H locs ls B hR hn he hS hl hv) (fun h => kf h p e s m args below meth c ad nb H locs ls B hR hn he hS hl hv)
theorem X_icmp_gt {x y : Int32} {off : Int} (hd : x_at (x_k M) pc = some (.if_icmp .gt off, pc', t)) (kt : y < x → x_W G M Z N cells slots t L st) (kf : ¬ (y < x) → x_W G M Z N cells slots pc' L st) : x_W G M Z N cells slots pc L (.int y :: .int x :: st) := by
  intro p e s m args below meth c ad nb H locs ls B hR hn he hS hl hvs
  have hok := B.2.2.2.2.2.2.2.2.2.2.2.2
  obtain ⟨d1, e1⟩ := x_decn hok hd (n := 2) rfl
  subst e1
  have hv := (List.forall_mem_cons.mp (List.forall_mem_cons.mp hvs).2).2
  exact lv_icmp_gt B.1 B.2.1 d1 ((x_dec hok hd).2.2.2 _ rfl) (fun h => kt h p e s m args below meth c ad nb H locs ls B hR hn he hS hl hv) (fun h => kf h p e s m args below meth c ad nb H locs ls B hR hn he hS hl hv)
theorem X_if_le {x : Int32} {off : Int} (hd : x_at (x_k M) pc = some (.ifCond .le off, pc', t)) (kt : x ≤ 0 → x_W G M Z N cells slots t L st) (kf : ¬ (x ≤ 0) → x_W G M Z N cells slots pc' L st) : x_W G M Z N cells slots pc L (.int x :: st) := by
  intro p e s m args below meth c ad nb H locs ls B hR hn he hS hl hvs
  have hok := B.2.2.2.2.2.2.2.2.2.2.2.2
  obtain ⟨d1, e1⟩ := x_decn hok hd (n := 2) rfl
  subst e1
  have hv := (List.forall_mem_cons.mp hvs).2
  exact lv_if_le B.1 B.2.1 d1 ((x_dec hok hd).2.2.2 _ rfl) (fun h => kt h p e s m args below meth c ad nb H locs ls B hR hn he hS hl hv) (fun h => kf h p e s m args below meth c ad nb H locs ls B hR hn he hS hl hv)
theorem X_icmp_le {x y : Int32} {off : Int} (hd : x_at (x_k M) pc = some (.if_icmp .le off, pc', t)) (kt : x ≤ y → x_W G M Z N cells slots t L st) (kf : ¬ (x ≤ y) → x_W G M Z N cells slots pc' L st) : x_W G M Z N cells slots pc L (.int y :: .int x :: st) := by
  intro p e s m args below meth c ad nb H locs ls B hR hn he hS hl hvs
  have hok := B.2.2.2.2.2.2.2.2.2.2.2.2
  obtain ⟨d1, e1⟩ := x_decn hok hd (n := 2) rfl
  subst e1
  have hv := (List.forall_mem_cons.mp (List.forall_mem_cons.mp hvs).2).2
  exact lv_icmp_le B.1 B.2.1 d1 ((x_dec hok hd).2.2.2 _ rfl) (fun h => kt h p e s m args below meth c ad nb H locs ls B hR hn he hS hl hv) (fun h => kf h p e s m args below meth c ad nb H locs ls B hR hn he hS hl hv)
theorem X_ifnonnull {x : Nat} {off : Int} (hd : x_at (x_k M) pc = some (.ifnonnull off, pc', t)) (kk : x_W G M Z N cells slots t L st) : x_W G M Z N cells slots pc L (.ref x :: st) := by
  intro p e s m args below meth c ad nb H locs ls B hR hn he hS hl hvs
  have hok := B.2.2.2.2.2.2.2.2.2.2.2.2
  obtain ⟨d1, e1⟩ := x_decn hok hd (n := 2) rfl
  subst e1
  exact lv_ifnonnull B.1 B.2.1 d1 ((x_dec hok hd).2.2.2 _ rfl) (kk p e s m args below meth c ad nb H locs ls B hR hn he hS hl (List.forall_mem_cons.mp hvs).2)
theorem X_ifnull {x : Nat} {off : Int} (hd : x_at (x_k M) pc = some (.ifnull off, pc', t)) (kk : x_W G M Z N cells slots pc' L st) : x_W G M Z N cells slots pc L (.ref x :: st) := by
  intro p e s m args below meth c ad nb H locs ls B hR hn he hS hl hvs
  have hok := B.2.2.2.2.2.2.2.2.2.2.2.2
  obtain ⟨d1, e1⟩ := x_decn hok hd (n := 2) rfl
  subst e1
  exact lv_ifnull B.1 B.2.1 d1 (kk p e s m args below meth c ad nb H locs ls B hR hn he hS hl (List.forall_mem_cons.mp hvs).2)
theorem X_ifnullN {off : Int} (hd : x_at (x_k M) pc = some (.ifnull off, pc', t)) (kk : x_W G M Z N cells slots t L st) : x_W G M Z N cells slots pc L (.null :: st) := by
  intro p e s m args below meth c ad nb H locs ls B hR hn he hS hl hvs
  have hok := B.2.2.2.2.2.2.2.2.2.2.2.2
  obtain ⟨d1, e1⟩ := x_decn hok hd (n := 2) rfl
  subst e1
  exact lv_ifnullN B.1 B.2.1 d1 ((x_dec hok hd).2.2.2 _ rfl) (kk p e s m args below meth c ad nb H locs ls B hR hn he hS hl (List.forall_mem_cons.mp hvs).2)
theorem X_ifnonnullN {off : Int} (hd : x_at (x_k M) pc = some (.ifnonnull off, pc', t)) (kk : x_W G M Z N cells slots pc' L st) : x_W G M Z N cells slots pc L (.null :: st) := by
  intro p e s m args below meth c ad nb H locs ls B hR hn he hS hl hvs
  have hok := B.2.2.2.2.2.2.2.2.2.2.2.2
  obtain ⟨d1, e1⟩ := x_decn hok hd (n := 2) rfl
  subst e1
  exact lv_ifnonnullN B.1 B.2.1 d1 (kk p e s m args below meth c ad nb H locs ls B hR hn he hS hl (List.forall_mem_cons.mp hvs).2)
theorem X_tabOut {dflt lo hi : Int} {offs : Array Int} {x : Int32} (tgt : Nat) (hd : x_at (x_k M) pc = some (.tableswitch dflt lo hi offs, pc', t)) (h : x.toInt < lo ∨ hi < x.toInt) (ht : (pc : Int) + dflt = (tgt : Int)) (kk : x_W G M Z N cells slots tgt L st) : x_W G M Z N cells slots pc L (.int x :: st) := by
  intro p e s m args below meth c ad nb H locs ls B hR hn he hS hl hvs
  exact lv_tableOut B.1 B.2.1 (x_dec B.2.2.2.2.2.2.2.2.2.2.2.2 hd).1 h ht (kk p e s m args below meth c ad nb H locs ls B hR hn he hS hl (List.forall_mem_cons.mp hvs).2)
theorem X_tabIn {dflt lo hi : Int} {offs : Array Int} {x : Int32} {off : Int} (tgt : Nat) (hd : x_at (x_k M) pc = some (.tableswitch dflt lo hi offs, pc', t)) (h1 : ¬ x.toInt < lo) (h2 : ¬ hi < x.toInt) (ho : offs[(x.toInt - lo).toNat]? = some off) (ht : (pc : Int) + off = (tgt : Int)) (kk : x_W G M Z N cells slots tgt L st) : x_W G M Z N cells slots pc L (.int x :: st) := by
  intro p e s m args below meth c ad nb H locs ls B hR hn he hS hl hvs
  exact lv_tableIn B.1 B.2.1 (x_dec B.2.2.2.2.2.2.2.2.2.2.2.2 hd).1 h1 h2 ho ht (kk p e s m args below meth c ad nb H locs ls B hR hn he hS hl (List.forall_mem_cons.mp hvs).2)
theorem X_lookup {dflt : Int} {ps : Array (Int × Int)} {x : Int32} {off : Int} (tgt : Nat) (hd : x_at (x_k M) pc = some (.lookupswitch dflt ps, pc', t)) (hp : (ps.toList.zip (ps.toList.drop 1)).all (fun (a, next) => a.1 < next.1) = true) (ho : Op.lookupswitch.offset ps.toList dflt x.toInt = off) (ht : (pc : Int) + off = (tgt : Int)) (kk : x_W G M Z N cells slots tgt L st) : x_W G M Z N cells slots pc L (.int x :: st) := by
  intro p e s m args below meth c ad nb H locs ls B hR hn he hS hl hvs
  exact lv_lookup B.1 B.2.1 (x_dec B.2.2.2.2.2.2.2.2.2.2.2.2 hd).1 hp ho ht (kk p e s m args below meth c ad nb H locs ls B hR hn he hS hl (List.forall_mem_cons.mp hvs).2)
/-- fewer of the locals are remembered -/
def x_sub : List (Option Value) → List (Option Value) → Prop
  | [], _ => True
  | none :: t, _ :: u => x_sub t u
  | some v :: t, some w :: u => v = w ∧ x_sub t u
  | _ :: _, _ => False
theorem x_sub_get : ∀ {L L' : List (Option Value)}, x_sub L' L → L'.length ≤ L.length ∧ ∀ (i : Nat) (v : Value), L'[i]? = some (some v) → L[i]? = some (some v)
  | L, [], _ => ⟨Nat.zero_le _, fun i v h => by simp at h⟩
  | [], a :: t, h => by cases a <;> exact absurd h (by simp [x_sub])
  | b :: u, none :: t, h => by
    obtain ⟨h1, h2⟩ := x_sub_get (L := u) (L' := t) h
    refine ⟨by simpa using h1, fun i v hi => ?_⟩
    cases i with
    | zero => simp at hi
    | succ i => simpa using h2 i v (by simpa using hi)
  | none :: u, some a :: t, h => absurd h (by simp [x_sub])
  | some b :: u, some a :: t, h => by
    obtain ⟨h1, h2⟩ := x_sub_get (L := u) (L' := t) h.2
    refine ⟨by simpa using h1, fun i v hi => ?_⟩
    cases i with
    | zero =>
      simp at hi ⊢
      rw [← h.1, hi]
    | succ i => simpa using h2 i v (by simpa using hi)
theorem X_loc (hs : x_sub L' L) (kk : x_W G M Z N cells slots pc L' st) : x_W G M Z N cells slots pc L st := by
  intro p e s m args below meth c ad nb H locs ls B hR hn he hS hl hvs
  obtain ⟨h1, h2⟩ := x_sub_get hs
  exact kk p e s m args below meth c ad nb H locs ls B hR hn he hS ⟨⟨hl.1.1, Nat.le_trans h1 hl.1.2⟩, hl.2.1, fun i v hi => hl.2.2 i v (h2 i v hi)⟩ hvs
/-- fewer cells are remembered -/
theorem X_cells {N' : XH} (hs : ∀ k c, N' k = some c → N k = some c) (kk : x_W G M Z N' cells slots pc L st) : x_W G M Z N cells slots pc L st := by
  intro p e s m args below meth c ad nb H locs ls B hR hn he hS hl hvs
  exact kk p e s m args below meth c ad nb H locs ls B (x_R_sub hR hs) hn he hS hl hvs
theorem X_room {cells' slots' : Nat} (h1 : cells ≤ cells') (h2 : slots ≤ slots') (kk : x_W G M Z N cells' slots' pc L st) : x_W G M Z N cells slots pc L st := by
  intro p e s m args below meth c ad nb H locs ls B hR hn he hS hl hvs
  exact W.widen h1 h2 (kk p e s m args below meth c ad nb H locs ls B hR hn he hS hl hvs)
theorem X_top {x : Int32} (kk : ∀ y : Int32, y = x → x_W G M Z N cells slots pc L (.int y :: st)) : x_W G M Z N cells slots pc L (.int x :: st) := kk x rfl
end XR1
end
section
/-! ===== the rows: fields, arrays, new cells ===== -/
/-- a class of the list by its place: name, fields, their number, their types -/
def x_Cl (ci : Nat) (C : String) (T : u_T) (n : Nat) (ty : Nat → FieldType) : Prop :=
  vwCl[ci]? = some (C, T, n) ∧ (∀ w ∈ u_ws C T n, w ∈ x_T) ∧ (∀ k, k < n → parseFieldDescriptor (T k).2.2.1 = some (ty k)) ∧ ∀ a, a < n → ∀ b, b < n → a ≠ b → (T a).2.1 ≠ (T b).2.1
/-- what entry idx of own's pool names: field k, of this type, of the class at place ci -/
def x_FL (own : String) (idx ci k : Nat) (ty : FieldType) (fin : Bool) : Prop :=
  ∃ (C : String) (T : u_T) (n : Nat) (tys : Nat → FieldType), x_Cl ci C T n tys ∧ k < n ∧ tys k = ty ∧ (T k).2.2.2 = fin ∧
    (Cond.fieldLink own idx (T k).1 (T k).2.1 (T k).2.2.1 ∈ x_T ∨ ∃ host, Cond.fieldLinkNest own idx (T k).1 (T k).2.1 (T k).2.2.1 host ∈ lw_tbl)
theorem x_tr_fits {ad : Nat → Nat} {ty : FieldType} {v : Value} (h : narrow ty v = v ∧ fits ty v = true) : narrow ty (x_tr ad v) = x_tr ad v ∧ fits ty (x_tr ad v) = true := by
  obtain ⟨h1, h2⟩ := h
  cases v with
  | ref k =>
    refine ⟨by cases ty <;> rfl, ?_⟩
    cases ty <;> first | rfl | cases h2
  | _ => exact ⟨h1, h2⟩
theorem x_nest {G : XE} {s : State} {args : Array Value} (hK : x_Kn G) (hW : G.2.1.WarmedH s.vm) {own ref name desc host : String} {idx : Nat} (h : Cond.fieldLinkNest own idx ref name desc host ∈ lw_tbl) : (Cond.fieldLinkNest own idx ref name desc host).before args s = true :=
  va_Nw.use rfl (va_Nw.warmF hW (hK.2.2.1.1 _ h rfl))
section XR2
variable {G : XE} {M : XMI} {Z : XZ} {N : XH} {cells slots pc pc' t : Nat} {L L' : List (Option Value)} {st : List Value} {i : Instr}
theorem X_get {idx ci k o : Nat} {ty : FieldType} {fin : Bool} {V : Nat → Value} {v : Value} (hF : x_FL (x_own M) idx ci k ty fin) (hd : x_at (x_k M) pc = some (.getfield idx, pc', t)) (hN : N o = some (.inl (ci, V))) (hv : V k = v) (kk : x_W G M Z N cells slots pc' L (v :: st)) : x_W G M Z N cells slots pc L (.ref o :: st) := by
  intro p e s m args below meth c ad nb H locs ls B hR hn he hS hl hvs
  obtain ⟨hx, hb, hml, hr, hlk, hown, hts, hW, hkp, htb, hnm, hKn, hok⟩ := id B
  obtain ⟨d1, e1⟩ := x_decn hok hd (n := 2) rfl
  subst e1
  obtain ⟨C, T, n, tys, ⟨hc, hin, hty, hnms⟩, hk, -, -, hlink⟩ := hF
  obtain ⟨g1, g2, g3, r, g4, cell, q1, q2, q3, q4⟩ := hR.1 o _ hN
  cases hc.symm.trans g4
  obtain ⟨hSl, hfc, kC, hkC, hkind⟩ := u_Kn_moved hW.alike (hKn.1 ci _ hc)
  obtain ⟨cf, kf, fi, f, hi, hsl⟩ := hSl k hk
  have K := kk p e s m args below meth c ad nb H locs ls B hR hn he hS hl (List.forall_mem_cons.mpr ⟨by rw [← hv]; exact g2 _ hc k hk, (List.forall_mem_cons.mp hvs).2⟩)
  have hst := (u_facts hfc hkC (u_lays hts hin hk) hi).1
  have hslot : cell.slots[f.slot]? = some (x_tr ad v) := by rw [hsl, q4 k hk]; exact congrArg (fun z => some (x_tr ad z)) hv
  rcases hlink with h | ⟨host, h⟩
  · exact W.getf hx hb hown (hts _ h) hi hst q1 (by rw [q3]; exact fun h => by cases h) hslot rfl rfl d1 K
  · exact va_Wgetf hx hb hown (x_nest hKn hW h) hi hst q1 (by rw [q3]; exact fun h => by cases h) hslot rfl rfl d1 K
theorem x_cell_put {ad : Nat → Nat} {o ci k : Nat} {C : String} {T : u_T} {n : Nat} {tys : Nat → FieldType} {s : State} {args : Array Value} {V : Nat → Value} {v : Value} {H' : Heap} {cell : Cell} (hc : x_Cl ci C T n tys) (hts : ∀ w ∈ x_T, w.before args s = true) (hKu : u_Kn s C T n (G.2.2.1 ci) (G.2.2.2.1 ci)) (hk : k < n) (h0 : x_n0 G ≤ o)
    (q2 : cell.cls = G.2.2.1 ci) (q3 : cell.vm = .none) (q4 : ∀ j, j < n → cell.slots[G.2.2.2.1 ci j]? = some (x_tr ad (V j))) (e1 : H'[o]? = some (cell.setSlot (G.2.2.2.1 ci k) (x_tr ad v))) : x_cell G ad o (.inl (ci, updV V k v)) H' := by
  obtain ⟨hc1, hin, hty, hnms⟩ := hc
  have hap : ∀ a b, a < n → b < n → a ≠ b → (G.2.2.2.1 ci) a ≠ (G.2.2.2.1 ci) b := by
    intro x y hx hy hne
    obtain ⟨hS, -⟩ := hKu
    obtain ⟨_, _, _, fa, hia, ea⟩ := hS x hx
    obtain ⟨_, _, _, fb, hib, eb⟩ := hS y hy
    rw [← ea, ← eb]
    refine u_apart (u_lays hts hin hx) (u_lays hts hin hy) hia hib ?_
    rw [(State.fieldFound?_type hia (hty x hx)).1, (State.fieldFound?_type hib (hty y hy)).1]
    exact hnms x hx y hy hne
  refine ⟨h0, _, hc1, _, e1, q2, q3, fun j hj => ?_⟩
  rw [t_set (V := fun j => x_tr ad (V j)) q4 hap hk (x_tr ad v) j hj]
  show some (updV (fun j => x_tr ad (V j)) k (x_tr ad v) j) = some (x_tr ad (updV V k v j))
  unfold updV
  by_cases hjk : j = k
  · rw [if_pos hjk, if_pos hjk]
  · rw [if_neg hjk, if_neg hjk]
theorem x_cok_upd {nb ci k : Nat} {V : Nat → Value} {v : Value} (h : x_cok nb (.inl (ci, V))) (hv : x_vok nb v) : x_cok nb (.inl (ci, updV V k v)) := fun r hr j hj => by
  unfold updV
  by_cases e : j = k
  · rw [if_pos e]; exact hv
  · rw [if_neg e]; exact h r hr j hj
theorem x_cok_upa {nb n k : Nat} {mu : Bool} {ty : FieldType} {f : Nat → Value} {v : Value} (h : x_cok nb (.inr (mu, ty, n, f))) (hv : x_vok nb v) : x_cok nb (.inr (mu, ty, n, updV f k v)) := fun j hj => by
  unfold updV
  by_cases e : j = k
  · rw [if_pos e]; exact hv
  · rw [if_neg e]; exact h j hj
theorem x_S_put {A : Nat → Prop} {H0 H H1 : Heap} {locs : List Loc} {a k : Nat} (h : va_S A H0 H locs) (z : H1.size = H.size) (oq : ∀ q : Nat, q ≠ a → H1[q]? = H[q]?) (ha : A a) : va_S A H0 H1 (locs ++ [⟨a, k⟩]) := h.put z oq ha
theorem X_put {idx ci k o : Nat} {ty : FieldType} {V : Nat → Value} {v : Value} (hF : x_FL (x_own M) idx ci k ty false) (hd : x_at (x_k M) pc = some (.putfield idx, pc', t)) (hN : N o = some (.inl (ci, V))) (hv : narrow ty v = v ∧ fits ty v = true) (kk : x_W G M Z (x_set N o (.inl (ci, updV V k v))) cells slots pc' L st) : x_W G M Z N cells slots pc L (v :: .ref o :: st) := by
  intro p e s m args below meth c ad nb H locs ls B hR hn he hS hl hvs
  obtain ⟨hx, hb, hml, hr, hlk, hown, hts, hW, hkp, htb, hnm, hKn, hok⟩ := id B
  obtain ⟨d1, e1⟩ := x_decn hok hd (n := 2) rfl
  subst e1
  obtain ⟨C, T, n, tys, hcl, hk, hte, hfin, hlink⟩ := hF
  obtain ⟨hc, hin, hty, hnms⟩ := id hcl
  obtain ⟨g1, g2, g3, r, g4, cell, q1, q2, q3, q4⟩ := hR.1 o _ hN
  cases hc.symm.trans g4
  have hKu := u_Kn_moved hW.alike (hKn.1 ci _ hc)
  obtain ⟨hSl, hfc, kC, hkC, hkind⟩ := id hKu
  obtain ⟨cf, kf, fi, f, hi, hsl⟩ := hSl k hk
  have hlay := hts _ (hin _ (u_in_lay hk))
  unfold u_lay at hlay
  rw [if_neg (by rw [hfin]; decide)] at hlay
  have hst := (u_facts hfc hkC (u_lays hts hin hk) hi).1
  have hv2 := x_tr_fits (ad := ad) hv
  have h6 := u_store hfc hkC hkind hlay hi (by rw [hty k hk, hte]) hv2.1 hv2.2
  have hvv := hvs v List.mem_cons_self
  have K := fun H' (z1 : H'[ad o]? = some (cell.setSlot f.slot (x_tr ad v))) (z2 : H'.size = H.size) (z3 : ∀ q, q ≠ ad o → H'[q]? = H[q]?) =>
    kk p e s m args below meth c ad nb H' (locs ++ [⟨ad o, f.slot⟩]) ls B (x_R_put hR hN (x_cok_upd g2 hvv) (x_cell_put hcl hts hKu hk g3 q2 q3 q4 (by rw [z1, hsl])) z3) hn he (hS.put z2 z3 g3) hl (List.forall_mem_cons.mp (List.forall_mem_cons.mp hvs).2).2
  rcases hlink with h | ⟨host, h⟩
  · exact W.putK hx hb ⟨hown, hts _ h, ⟨_, _, _, hi⟩, hst⟩ (by rw [q2]; exact h6) q1 q3 (by rw [hsl]; exact k2_hasslot (q4 k hk)) rfl rfl d1 K
  · exact va_WputK hx hb hown (x_nest hKn hW h) hi hst (by rw [q2]; exact h6) q1 q3 (by rw [hsl]; exact k2_hasslot (q4 k hk)) rfl rfl d1 K
/-- a final field, in its own class's constructor -/
theorem X_putF {idx ci k o : Nat} {ty : FieldType} {V : Nat → Value} {v : Value} (hF : x_FL (x_own M) idx ci k ty true) (hd : x_at (x_k M) pc = some (.putfield idx, pc', t)) (hN : N o = some (.inl (ci, V))) (hv : narrow ty v = v ∧ fits ty v = true) (hini : (x_y M).name = "<init>") (hdecl : ∀ (C : String) (T : u_T) (n : Nat), vwCl[ci]? = some (C, T, n) → (T k).1 = x_own M) (kk : x_W G M Z (x_set N o (.inl (ci, updV V k v))) cells slots pc' L st) : x_W G M Z N cells slots pc L (v :: .ref o :: st) := by
  intro p e s m args below meth c ad nb H locs ls B hR hn he hS hl hvs
  obtain ⟨hx, hb, hml, hr, hlk, hown, hts, hW, hkp, htb, hnm, hKn, hok⟩ := id B
  obtain ⟨d1, e1⟩ := x_decn hok hd (n := 2) rfl
  subst e1
  obtain ⟨C, T, n, tys, hcl, hk, hte, hfin, hlink⟩ := hF
  obtain ⟨hc, hin, hty, hnms⟩ := id hcl
  obtain ⟨g1, g2, g3, r, g4, cell, q1, q2, q3, q4⟩ := hR.1 o _ hN
  cases hc.symm.trans g4
  have hKu := u_Kn_moved hW.alike (hKn.1 ci _ hc)
  obtain ⟨hSl, hfc, kC, hkC, hkind⟩ := id hKu
  obtain ⟨cf, kf, fi, f, hi, hsl⟩ := hSl k hk
  have hlay := hts _ (hin _ (u_in_lay hk))
  unfold u_lay at hlay
  rw [if_pos hfin] at hlay
  have hst := (u_facts hfc hkC (u_lays hts hin hk) hi).1
  have hv2 := x_tr_fits (ad := ad) hv
  have hcf : m.cls = cf := by
    obtain ⟨_, _, c', _, _, _, -, -, hf', -, -, -, hown2, -⟩ := Cond.laysFinal_spec hlay
    have e1 : c' = cf := by have := hi.symm.trans hf'; simp at this; exact this.1.symm
    rw [hdecl _ _ _ hc] at hown2
    rw [← e1]; exact Option.some.inj (hown.symm.trans hown2)
  have h6 := u_fits hfc hkC hkind (Or.inr hlay) hi (by rw [hty k hk, hte]) hv2.1 hv2.2
  have hvv := hvs v List.mem_cons_self
  have K := fun H' (z1 : H'[ad o]? = some (cell.setSlot f.slot (x_tr ad v))) (z2 : H'.size = H.size) (z3 : ∀ q, q ≠ ad o → H'[q]? = H[q]?) =>
    kk p e s m args below meth c ad nb H' (locs ++ [⟨ad o, f.slot⟩]) ls B (x_R_put hR hN (x_cok_upd g2 hvv) (x_cell_put hcl hts hKu hk g3 q2 q3 q4 (by rw [z1, hsl])) z3) hn he (hS.put z2 z3 g3) hl (List.forall_mem_cons.mp (List.forall_mem_cons.mp hvs).2).2
  rcases hlink with h | ⟨host, h⟩
  · exact W.putFinK hx hb hown (hts _ h) hi hst hcf (hnm.trans hini) (by rw [q2]; exact h6) q1 q3 (by rw [hsl]; exact k2_hasslot (q4 k hk)) rfl rfl d1 K
  · refine va_Wputf hx hb hown (x_nest hKn hW h) hi hst (Or.inr ⟨hcf, hnm.trans hini⟩) q1 (by rw [q3]; exact fun h => by cases h) (by rw [hsl]; exact k2_hasslot (q4 k hk)) h6.1 (by rw [q2, q3]; exact h6.2) rfl rfl d1 (K _ ?_ ?_ ?_)
    · have ha : ad o < H.size := (Array.getElem?_eq_some_iff.mp q1).1
      simp [Array.getElem?_setIfInBounds, ha]
    · simp
    · intro q hq
      simp [Array.getElem?_setIfInBounds, Ne.symm hq]

theorem X_iald {a n : Nat} {mu : Bool} {f : Nat → Value} {j : Int32} {v : Value} (hd : x_at (x_k M) pc = some (.iaload, pc', t)) (hN : N a = some (.inr (mu, .int, n, f))) (hin : vp_in j n) (hv : f j.toNatClampNeg = v) (kk : x_W G M Z N cells slots pc' L (v :: st)) : x_W G M Z N cells slots pc L (.int j :: .ref a :: st) := by
  intro p e s m args below meth c ad nb H locs ls B hR hn he hS hl hvs
  obtain ⟨hx, hb, hml, hr, hlk, hown, hts, hW, hkp, htb, hnm, hKn, hok⟩ := id B
  obtain ⟨d1, e1⟩ := x_decn hok hd (n := 0) rfl
  subst e1
  obtain ⟨g1, g2, g3, g4, g5⟩ := hR.1 a _ hN
  have hlt : j.toNatClampNeg < n := Nat.not_le.mp fun q => hin (Or.inr q)
  have K := kk p e s m args below meth c ad nb H locs ls B hR hn he hS hl (List.forall_mem_cons.mpr ⟨by rw [← hv]; exact g2 _ hlt, (List.forall_mem_cons.mp (List.forall_mem_cons.mp hvs).2).2⟩)
  exact W.iald hx hb g5 (arrOfT_moved hW.alike (hKn.2.1 _ g4).1 n _) (fun q => by cases q) (by rw [arrV_size]; exact hin) (by rw [arrV_read _ _ hlt, hv]) rfl rfl d1 K
theorem X_lald {a n : Nat} {mu : Bool} {f : Nat → Value} {j : Int32} {v : Value} (hd : x_at (x_k M) pc = some (.laload, pc', t)) (hN : N a = some (.inr (mu, .long, n, f))) (hin : vp_in j n) (hv : f j.toNatClampNeg = v) (kk : x_W G M Z N cells slots pc' L (v :: st)) : x_W G M Z N cells slots pc L (.int j :: .ref a :: st) := by
  intro p e s m args below meth c ad nb H locs ls B hR hn he hS hl hvs
  obtain ⟨hx, hb, hml, hr, hlk, hown, hts, hW, hkp, htb, hnm, hKn, hok⟩ := id B
  obtain ⟨d1, e1⟩ := x_decn hok hd (n := 0) rfl
  subst e1
  obtain ⟨g1, g2, g3, g4, g5⟩ := hR.1 a _ hN
  have hlt : j.toNatClampNeg < n := Nat.not_le.mp fun q => hin (Or.inr q)
  have K := kk p e s m args below meth c ad nb H locs ls B hR hn he hS hl (List.forall_mem_cons.mpr ⟨by rw [← hv]; exact g2 _ hlt, (List.forall_mem_cons.mp (List.forall_mem_cons.mp hvs).2).2⟩)
  exact W.lald hx hb g5 (arrOfT_moved hW.alike (hKn.2.1 _ g4).1 n _) (fun q => by cases q) (by rw [arrV_size]; exact hin) (by rw [arrV_read _ _ hlt, hv]) rfl rfl d1 K
theorem X_bald {a n : Nat} {mu : Bool} {f : Nat → Value} {j : Int32} {v : Value} (hd : x_at (x_k M) pc = some (.baload, pc', t)) (hN : N a = some (.inr (mu, .byte, n, f))) (hin : vp_in j n) (hv : f j.toNatClampNeg = v) (kk : x_W G M Z N cells slots pc' L (v :: st)) : x_W G M Z N cells slots pc L (.int j :: .ref a :: st) := by
  intro p e s m args below meth c ad nb H locs ls B hR hn he hS hl hvs
  obtain ⟨hx, hb, hml, hr, hlk, hown, hts, hW, hkp, htb, hnm, hKn, hok⟩ := id B
  obtain ⟨d1, e1⟩ := x_decn hok hd (n := 0) rfl
  subst e1
  obtain ⟨g1, g2, g3, g4, g5⟩ := hR.1 a _ hN
  have hlt : j.toNatClampNeg < n := Nat.not_le.mp fun q => hin (Or.inr q)
  have K := kk p e s m args below meth c ad nb H locs ls B hR hn he hS hl (List.forall_mem_cons.mpr ⟨by rw [← hv]; exact g2 _ hlt, (List.forall_mem_cons.mp (List.forall_mem_cons.mp hvs).2).2⟩)
  exact W.bald hx hb g5 (arrOfT_moved hW.alike (hKn.2.1 _ g4).1 n _) (fun q => by cases q) (by rw [arrV_size]; exact hin) (by rw [arrV_read _ _ hlt, hv]) rfl rfl d1 K
theorem X_zald {a n : Nat} {mu : Bool} {f : Nat → Value} {j : Int32} {v : Value} (hd : x_at (x_k M) pc = some (.baload, pc', t)) (hN : N a = some (.inr (mu, .boolean, n, f))) (hin : vp_in j n) (hv : f j.toNatClampNeg = v) (kk : x_W G M Z N cells slots pc' L (v :: st)) : x_W G M Z N cells slots pc L (.int j :: .ref a :: st) := by
  intro p e s m args below meth c ad nb H locs ls B hR hn he hS hl hvs
  obtain ⟨hx, hb, hml, hr, hlk, hown, hts, hW, hkp, htb, hnm, hKn, hok⟩ := id B
  obtain ⟨d1, e1⟩ := x_decn hok hd (n := 0) rfl
  subst e1
  obtain ⟨g1, g2, g3, g4, g5⟩ := hR.1 a _ hN
  have hlt : j.toNatClampNeg < n := Nat.not_le.mp fun q => hin (Or.inr q)
  have K := kk p e s m args below meth c ad nb H locs ls B hR hn he hS hl (List.forall_mem_cons.mpr ⟨by rw [← hv]; exact g2 _ hlt, (List.forall_mem_cons.mp (List.forall_mem_cons.mp hvs).2).2⟩)
  exact W.zald hx hb g5 (arrOfT_moved hW.alike (hKn.2.1 _ g4).1 n _) (fun q => by cases q) (by rw [arrV_size]; exact hin) (by rw [arrV_read _ _ hlt, hv]) rfl rfl d1 K
theorem X_aald {a n : Nat} {mu : Bool} {ty : FieldType} {f : Nat → Value} {j : Int32} {v : Value} (hd : x_at (x_k M) pc = some (.aaload, pc', t)) (hN : N a = some (.inr (mu, ty, n, f))) (hty : ty.isReference = true) (hin : vp_in j n) (hv : f j.toNatClampNeg = v) (kk : x_W G M Z N cells slots pc' L (v :: st)) : x_W G M Z N cells slots pc L (.int j :: .ref a :: st) := by
  intro p e s m args below meth c ad nb H locs ls B hR hn he hS hl hvs
  obtain ⟨hx, hb, hml, hr, hlk, hown, hts, hW, hkp, htb, hnm, hKn, hok⟩ := id B
  obtain ⟨d1, e1⟩ := x_decn hok hd (n := 0) rfl
  subst e1
  obtain ⟨g1, g2, g3, g4, g5⟩ := hR.1 a _ hN
  have hlt : j.toNatClampNeg < n := Nat.not_le.mp fun q => hin (Or.inr q)
  have K := kk p e s m args below meth c ad nb H locs ls B hR hn he hS hl (List.forall_mem_cons.mpr ⟨by rw [← hv]; exact g2 _ hlt, (List.forall_mem_cons.mp (List.forall_mem_cons.mp hvs).2).2⟩)
  exact W.aald hx hb g5 (arrOfT_moved hW.alike (hKn.2.1 _ g4).1 n _) hty (fun q => by cases q) (by rw [arrV_size]; exact hin) (by rw [arrV_read _ _ hlt, hv]) rfl rfl d1 K
theorem X_alen {a n : Nat} {mu : Bool} {ty : FieldType} {f : Nat → Value} (hd : x_at (x_k M) pc = some (.arraylength, pc', t)) (hN : N a = some (.inr (mu, ty, n, f))) (kk : x_W G M Z N cells slots pc' L (.int (Int32.ofNat n) :: st)) : x_W G M Z N cells slots pc L (.ref a :: st) := by
  intro p e s m args below meth c ad nb H locs ls B hR hn he hS hl hvs
  obtain ⟨hx, hb, hml, hr, hlk, hown, hts, hW, hkp, htb, hnm, hKn, hok⟩ := id B
  obtain ⟨d1, e1⟩ := x_decn hok hd (n := 0) rfl
  subst e1
  obtain ⟨g1, g2, g3, g4, g5⟩ := hR.1 a _ hN
  have K := kk p e s m args below meth c ad nb H locs ls B hR hn he hS hl (List.forall_mem_cons.mpr ⟨trivial, (List.forall_mem_cons.mp hvs).2⟩)
  exact W.alen (n := Int32.ofNat n) hx hb g5 (arrOfT_moved hW.alike (hKn.2.1 _ g4).1 n _) (by rw [arrV_size] <;> rfl) rfl rfl d1 K
theorem x_cell_upa {ad : Nat → Nat} {a n k : Nat} {mu : Bool} {ty : FieldType} {f : Nat → Value} {v : Value} {H' : Heap} (h1 : mu = true → x_n0 G ≤ a) (h2 : ty ∈ x_tys) (e : H'[a]? = some ((arrV (G.2.2.2.2.1 ty) n (fun j => x_tr ad (f j))).setSlot k (x_tr ad v))) : x_cell G ad a (.inr (mu, ty, n, updV f k v)) H' := by
  refine ⟨h1, h2, ?_⟩
  rw [e, arrV_store]
  congr 2
  funext j
  unfold updV
  by_cases hj : j = k
  · rw [if_pos hj, if_pos hj]
  · rw [if_neg hj, if_neg hj]
theorem X_iast {a n : Nat} {f : Nat → Value} {j : Int32} {x : Int32} (hd : x_at (x_k M) pc = some (.iastore, pc', t)) (hN : N a = some (.inr (true, .int, n, f))) (hin : vp_in j n) (kk : x_W G M Z (x_set N a (.inr (true, .int, n, updV f j.toNatClampNeg (.int x)))) cells slots pc' L st) : x_W G M Z N cells slots pc L (.int x :: .int j :: .ref a :: st) := by
  intro p e s m args below meth c ad nb H locs ls B hR hn he hS hl hvs
  obtain ⟨hx, hb, hml, hr, hlk, hown, hts, hW, hkp, htb, hnm, hKn, hok⟩ := id B
  obtain ⟨d1, e1⟩ := x_decn hok hd (n := 0) rfl
  subst e1
  obtain ⟨g1, g2, g3, g4, g5⟩ := hR.1 a _ hN
  have K := fun H' (z1 : H'[ad a]? = some ((arrV (G.2.2.2.2.1 .int) n (fun j => x_tr ad (f j))).setSlot j.toNatClampNeg (.int x))) (z2 : H'.size = H.size) (z3 : ∀ q, q ≠ ad a → H'[q]? = H[q]?) =>
    kk p e s m args below meth c ad nb H' (locs ++ [⟨ad a, j.toNatClampNeg⟩]) ls B (x_R_put hR hN (x_cok_upa g2 (v := .int x) trivial) (x_cell_upa g3 g4 (v := .int x) z1) z3) hn he (hS.put z2 z3 (g3 rfl)) hl (List.forall_mem_cons.mp (List.forall_mem_cons.mp (List.forall_mem_cons.mp hvs).2).2).2
  exact W.iast hx hb g5 (arrOfT_moved hW.alike (hKn.2.1 _ g4).1 n _) (fun q => by cases q) (by rw [arrV_size]; exact hin) rfl rfl d1 K
theorem X_last {a n : Nat} {f : Nat → Value} {j : Int32} {x : Int64} (hd : x_at (x_k M) pc = some (.lastore, pc', t)) (hN : N a = some (.inr (true, .long, n, f))) (hin : vp_in j n) (kk : x_W G M Z (x_set N a (.inr (true, .long, n, updV f j.toNatClampNeg (.long x)))) cells slots pc' L st) : x_W G M Z N cells slots pc L (.long x :: .int j :: .ref a :: st) := by
  intro p e s m args below meth c ad nb H locs ls B hR hn he hS hl hvs
  obtain ⟨hx, hb, hml, hr, hlk, hown, hts, hW, hkp, htb, hnm, hKn, hok⟩ := id B
  obtain ⟨d1, e1⟩ := x_decn hok hd (n := 0) rfl
  subst e1
  obtain ⟨g1, g2, g3, g4, g5⟩ := hR.1 a _ hN
  have K := fun H' (z1 : H'[ad a]? = some ((arrV (G.2.2.2.2.1 .long) n (fun j => x_tr ad (f j))).setSlot j.toNatClampNeg (.long x))) (z2 : H'.size = H.size) (z3 : ∀ q, q ≠ ad a → H'[q]? = H[q]?) =>
    kk p e s m args below meth c ad nb H' (locs ++ [⟨ad a, j.toNatClampNeg⟩]) ls B (x_R_put hR hN (x_cok_upa g2 (v := .long x) trivial) (x_cell_upa g3 g4 (v := .long x) z1) z3) hn he (hS.put z2 z3 (g3 rfl)) hl (List.forall_mem_cons.mp (List.forall_mem_cons.mp (List.forall_mem_cons.mp hvs).2).2).2
  exact W.last hx hb g5 (arrOfT_moved hW.alike (hKn.2.1 _ g4).1 n _) (fun q => by cases q) (by rw [arrV_size]; exact hin) rfl rfl d1 K
theorem X_bast {a n : Nat} {f : Nat → Value} {j : Int32} {x : Int32} (hd : x_at (x_k M) pc = some (.bastore, pc', t)) (hN : N a = some (.inr (true, .byte, n, f))) (hin : vp_in j n) (hnar : narrow .byte (.int x) = .int x) (kk : x_W G M Z (x_set N a (.inr (true, .byte, n, updV f j.toNatClampNeg (.int x)))) cells slots pc' L st) : x_W G M Z N cells slots pc L (.int x :: .int j :: .ref a :: st) := by
  intro p e s m args below meth c ad nb H locs ls B hR hn he hS hl hvs
  obtain ⟨hx, hb, hml, hr, hlk, hown, hts, hW, hkp, htb, hnm, hKn, hok⟩ := id B
  obtain ⟨d1, e1⟩ := x_decn hok hd (n := 0) rfl
  subst e1
  obtain ⟨g1, g2, g3, g4, g5⟩ := hR.1 a _ hN
  have K := fun H' (z1 : H'[ad a]? = some ((arrV (G.2.2.2.2.1 .byte) n (fun j => x_tr ad (f j))).setSlot j.toNatClampNeg (.int x))) (z2 : H'.size = H.size) (z3 : ∀ q, q ≠ ad a → H'[q]? = H[q]?) =>
    kk p e s m args below meth c ad nb H' (locs ++ [⟨ad a, j.toNatClampNeg⟩]) ls B (x_R_put hR hN (x_cok_upa g2 (v := .int x) trivial) (x_cell_upa g3 g4 (v := .int x) z1) z3) hn he (hS.put z2 z3 (g3 rfl)) hl (List.forall_mem_cons.mp (List.forall_mem_cons.mp (List.forall_mem_cons.mp hvs).2).2).2
  exact W.bast hx hb g5 (arrOfT_moved hW.alike (hKn.2.1 _ g4).1 n _) (fun q => by cases q) (by rw [arrV_size]; exact hin) rfl rfl d1 (fun H1 e z oq => K H1 (by rw [e]; first | rfl | rw [hnar]) z oq)
theorem X_zast {a n : Nat} {f : Nat → Value} {j : Int32} {x : Int32} (hd : x_at (x_k M) pc = some (.bastore, pc', t)) (hN : N a = some (.inr (true, .boolean, n, f))) (hin : vp_in j n) (hnar : narrow .boolean (.int x) = .int x) (kk : x_W G M Z (x_set N a (.inr (true, .boolean, n, updV f j.toNatClampNeg (.int x)))) cells slots pc' L st) : x_W G M Z N cells slots pc L (.int x :: .int j :: .ref a :: st) := by
  intro p e s m args below meth c ad nb H locs ls B hR hn he hS hl hvs
  obtain ⟨hx, hb, hml, hr, hlk, hown, hts, hW, hkp, htb, hnm, hKn, hok⟩ := id B
  obtain ⟨d1, e1⟩ := x_decn hok hd (n := 0) rfl
  subst e1
  obtain ⟨g1, g2, g3, g4, g5⟩ := hR.1 a _ hN
  have K := fun H' (z1 : H'[ad a]? = some ((arrV (G.2.2.2.2.1 .boolean) n (fun j => x_tr ad (f j))).setSlot j.toNatClampNeg (.int x))) (z2 : H'.size = H.size) (z3 : ∀ q, q ≠ ad a → H'[q]? = H[q]?) =>
    kk p e s m args below meth c ad nb H' (locs ++ [⟨ad a, j.toNatClampNeg⟩]) ls B (x_R_put hR hN (x_cok_upa g2 (v := .int x) trivial) (x_cell_upa g3 g4 (v := .int x) z1) z3) hn he (hS.put z2 z3 (g3 rfl)) hl (List.forall_mem_cons.mp (List.forall_mem_cons.mp (List.forall_mem_cons.mp hvs).2).2).2
  exact W.zast hx hb g5 (arrOfT_moved hW.alike (hKn.2.1 _ g4).1 n _) (fun q => by cases q) (by rw [arrV_size]; exact hin) rfl rfl d1 (fun H1 e z oq => K H1 (by rw [e]; first | rfl | rw [hnar]) z oq)
theorem x_S_new {A : Nat → Prop} {H0 H H1 : Heap} {locs : List Loc} (h : va_S A H0 H locs) (z : H1.size = H.size + 1) (oq : ∀ q : Nat, q < H.size → H1[q]? = H[q]?) : va_S A H0 H1 locs :=
  ⟨Nat.le_trans h.1 (by omega), fun x h1 h2 => (oq x (Nat.lt_of_lt_of_le h1 h.1)).trans (h.2.1 x h1 h2), h.2.2⟩
theorem x_fits_def (ad : Nat → Nat) (ty : FieldType) : x_tr ad (defaultValue ty) = defaultValue ty := by cases ty <;> rfl
theorem x_vok_def (nb : Nat) (ty : FieldType) : x_vok nb (defaultValue ty) := by cases ty <;> trivial
theorem x_n0_le {s : State} {H : Heap} {locs : List Loc} (hk : x_kept G s.heap) (hS : va_S (x_A G) s.heap H locs) : x_n0 G ≤ H.size := Nat.le_trans hk.1 hS.1
/-- entry idx of own's pool names the class at place ci, which can be made -/
def x_CN (own : String) (idx ci : Nat) (C : String) (T : u_T) (n : Nat) (ty : Nat → FieldType) : Prop :=
  x_Cl ci C T n ty ∧ Cond.classLink own idx C ∈ x_T ∧ Cond.instantiable C n ∈ x_T ∧ Cond.initialized C ∈ x_T
theorem X_new {idx ci n : Nat} {C : String} {T : u_T} {ty : Nat → FieldType} (hC : x_CN (x_own M) idx ci C T n ty) (hd : x_at (x_k M) pc = some (.new idx, pc', t)) (hc1 : cells + 1 ≤ Z.1.cells) (hc2 : slots + n ≤ Z.1.slots)
    (kk : ∀ q, N q = none → 64 ≤ q → x_W G M Z (x_set N q (.inl (ci, fun k => defaultValue (ty k)))) (cells + 1) (slots + n) pc' L (.ref q :: st)) : x_W G M Z N cells slots pc L st := by
  intro p e s m args below meth c ad nb H locs ls B hR hn he hS hl hvs
  obtain ⟨hx, hb, hml, hr, hlk, hown, hts, hW, hkp, htb, hnm, hKn, hok⟩ := id B
  obtain ⟨d1, e1⟩ := x_decn hok hd (n := 2) rfl
  subst e1
  obtain ⟨⟨hc, hin, hty, hnms⟩, hl1, hl2, hl3⟩ := hC
  have hKu := u_Kn_moved hW.alike (hKn.1 ci _ hc)
  refine W.newcK hx hb hown (hts _ hl1) (hts _ hl2) (hts _ hl3) rfl d1 hc1 hc2 hKu.2.1 rfl fun H1 kC hkC z1 z2 z3 => ?_
  obtain ⟨r1, r2⟩ := x_R_new (a := H.size) (H' := H1) (c := .inl (ci, fun k => defaultValue (ty k))) hR rfl (fun r hr j hj => x_vok_def nb _) ⟨x_n0_le hkp hS, _, hc, (u_born ty hts hin hKu hkC z1 hty).to fun k hk => (x_fits_def ad _).symm⟩ z3
  have ex := x_adn_ext ad nb H.size
  have K := kk nb r2 hR.2.2.2 p e s m args below meth c (x_adn ad nb H.size) (nb + 1) H1 locs ls B r1 (Nat.le_succ_of_le hn) (fun k hk => (ex k (Nat.lt_of_lt_of_le hk hn)).trans (he k hk)) (x_S_new hS z2 z3) (x_L_ext ex (Nat.le_succ _) hl) (List.forall_mem_cons.mpr ⟨Nat.lt_succ_self nb, fun v hv => x_vok_mono (Nat.le_succ _) (hvs v hv)⟩)
  have e1 : x_tr (x_adn ad nb H.size) (.ref nb) = .ref H.size := congrArg Value.ref (show x_adn ad nb H.size nb = H.size by unfold x_adn; rw [if_pos rfl])
  rw [List.map_cons, x_map_ext ex hvs, e1] at K
  exact K
/-- the number of an array's places fits the machine -/
theorem X_newa {atype : ArrayType} {ty : FieldType} {k : Int32} (n : Nat) (hd : x_at (x_k M) pc = some (.newarray atype, pc', t)) (hty : newarray.typeOf atype = ty) (hmem : ty ∈ x_tys) (hcl : Cond.arrayClass ty ∈ x_T) (hk : ¬ k < 0) (hn : k.toNatClampNeg = n) (hsm : n * 8 ≤ 536870912) (hc1 : cells + 1 ≤ Z.1.cells) (hc2 : slots + n ≤ Z.1.slots)
    (kk : ∀ q, N q = none → 64 ≤ q → x_W G M Z (x_set N q (.inr (true, ty, n, fun _ => defaultValue ty))) (cells + 1) (slots + n) pc' L (.ref q :: st)) : x_W G M Z N cells slots pc L (.int k :: st) := by
  intro p e s m args below meth c ad nb H locs ls B hR hnb he hS hl hvs
  obtain ⟨hx, hb, hml, hr, hlk, hown, hts, hW, hkp, htb, hnm, hKn, hok⟩ := id B
  obtain ⟨d1, e1⟩ := x_decn hok hd (n := 1) rfl
  subst e1
  subst hty
  have hby : n * componentBytes (newarray.typeOf atype) ≤ 536870912 := by
    have : componentBytes (newarray.typeOf atype) ≤ 8 := by cases atype <;> decide
    exact Nat.le_trans (Nat.mul_le_mul_left n this) hsm
  refine va_newaK hx hb (hts _ hcl) rfl d1 rfl hk hn hby hc1 hc2 rfl fun H1 cA z1 z2 z3 z4 z5 => ?_
  have hra : cA = G.2.2.2.2.1 (newarray.typeOf atype) := by
    have h1 := (hKn.2.1 _ hmem).2
    have h2 : G.2.1.vm.findClass ("[" ++ (newarray.typeOf atype).toString) = some (G.2.2.2.2.1 (newarray.typeOf atype)) := by cases atype <;> exact h1
    rw [hW.alike.findClass] at z5
    exact Option.some.inj (z5.symm.trans h2)
  subst hra
  obtain ⟨r1, r2⟩ := x_R_new (a := H.size) (H' := H1) (c := .inr (true, newarray.typeOf atype, n, fun _ => defaultValue (newarray.typeOf atype))) hR rfl (fun j hj => x_vok_def nb _) ⟨fun _ => x_n0_le hkp hS, hmem, by rw [z1]; exact congrArg some (arrV_ext _ n fun j hj => (x_fits_def ad _).symm)⟩ z3
  have ex := x_adn_ext ad nb H.size
  have hvs2 := (List.forall_mem_cons.mp hvs).2
  have K := kk nb r2 hR.2.2.2 p e s m args below meth c (x_adn ad nb H.size) (nb + 1) H1 locs ls B r1 (Nat.le_succ_of_le hnb) (fun k hk => (ex k (Nat.lt_of_lt_of_le hk hnb)).trans (he k hk)) (x_S_new hS z2 z3) (x_L_ext ex (Nat.le_succ _) hl) (List.forall_mem_cons.mpr ⟨Nat.lt_succ_self nb, fun v hv => x_vok_mono (Nat.le_succ _) (hvs2 v hv)⟩)
  have e1 : x_tr (x_adn ad nb H.size) (.ref nb) = .ref H.size := congrArg Value.ref (show x_adn ad nb H.size nb = H.size by unfold x_adn; rw [if_pos rfl])
  rw [List.map_cons, x_map_ext ex hvs2, e1] at K
  exact K
theorem X_anew {idx : Nat} {C : String} {k : Int32} (n : Nat) (hd : x_at (x_k M) pc = some (.anewarray idx, pc', t)) (hmem : FieldType.object C ∈ x_tys) (hl1 : Cond.classLink (x_own M) idx C ∈ x_T) (hl2 : Cond.arrayOver (.object C) ∈ lw_tbl) (hk : ¬ k < 0) (hn : k.toNatClampNeg = n) (hsm : n * 4 ≤ 536870912) (hc1 : cells + 1 ≤ Z.1.cells) (hc2 : slots + n ≤ Z.1.slots)
    (kk : ∀ q, N q = none → 64 ≤ q → x_W G M Z (x_set N q (.inr (true, .object C, n, fun _ => .null))) (cells + 1) (slots + n) pc' L (.ref q :: st)) : x_W G M Z N cells slots pc L (.int k :: st) := by
  intro p e s m args below meth c ad nb H locs ls B hR hnb he hS hl hvs
  obtain ⟨hx, hb, hml, hr, hlk, hown, hts, hW, hkp, htb, hnm, hKn, hok⟩ := id B
  obtain ⟨d1, e1⟩ := x_decn hok hd (n := 2) rfl
  subst e1
  subst hn
  have hov : (Cond.arrayOver (.object C)).before args s = true := va_AO.use (va_AO.moved hW.alike (hKn.2.2.1.2 _ hl2))
  refine W.anew hx hb hown (hts _ hl1) hov rfl d1 rfl hk hsm hc1 hc2 fun cA kA comp z1 z2 z3 z4 => ?_
  have hra : cA = G.2.2.2.2.1 (.object C) := by
    obtain ⟨_, _, _, _, _, h1⟩ := (hKn.2.1 _ hmem).2
    rw [hW.alike.findClass] at z1
    exact Option.some.inj (z1.symm.trans h1)
  subst hra
  have y1 : (H.push { cls := G.2.2.2.2.1 (.object C), slots := Array.replicate k.toNatClampNeg .null, vm := .none })[H.size]? = some (arrV (G.2.2.2.2.1 (.object C)) k.toNatClampNeg (fun _ => .null)) := by
    rw [← arrV_new]; simp
  obtain ⟨r1, r2⟩ := x_R_new (a := H.size) (H' := H.push { cls := G.2.2.2.2.1 (.object C), slots := Array.replicate k.toNatClampNeg .null, vm := .none }) (c := .inr (true, .object C, k.toNatClampNeg, fun _ => .null)) hR rfl (fun j hj => trivial) ⟨fun _ => x_n0_le hkp hS, hmem, y1⟩ (fun q hq => by rw [Array.getElem?_push, if_neg (Nat.ne_of_lt hq)])
  have ex := x_adn_ext ad nb H.size
  have hvs2 := (List.forall_mem_cons.mp hvs).2
  have K := kk nb r2 hR.2.2.2 p e s m args below meth c (x_adn ad nb H.size) (nb + 1) _ locs ls B r1 (Nat.le_succ_of_le hnb) (fun k hk => (ex k (Nat.lt_of_lt_of_le hk hnb)).trans (he k hk)) (x_S_new hS (by simp) (fun q hq => by rw [Array.getElem?_push, if_neg (Nat.ne_of_lt hq)])) (x_L_ext ex (Nat.le_succ _) hl) (List.forall_mem_cons.mpr ⟨Nat.lt_succ_self nb, fun v hv => x_vok_mono (Nat.le_succ _) (hvs2 v hv)⟩)
  have e1 : x_tr (x_adn ad nb H.size) (.ref nb) = .ref H.size := congrArg Value.ref (show x_adn ad nb H.size nb = H.size by unfold x_adn; rw [if_pos rfl])
  rw [List.map_cons, x_map_ext ex hvs2, e1] at K
  exact K
/-- a reference to an object of the array's own class is stored -/
theorem X_aast {a n v ci : Nat} {C : String} {T : u_T} {nf : Nat} {f V : Nat → Value} {j : Int32} (hd : x_at (x_k M) pc = some (.aastore, pc', t)) (hN : N a = some (.inr (true, .object C, n, f))) (hv : N v = some (.inl (ci, V))) (hc : vwCl[ci]? = some (C, T, nf)) (hin : vp_in j n) (kk : x_W G M Z (x_set N a (.inr (true, .object C, n, updV f j.toNatClampNeg (.ref v)))) cells slots pc' L st) : x_W G M Z N cells slots pc L (.ref v :: .int j :: .ref a :: st) := by
  intro p e s m args below meth c ad nb H locs ls B hR hn he hS hl hvs
  obtain ⟨hx, hb, hml, hr, hlk, hown, hts, hW, hkp, htb, hnm, hKn, hok⟩ := id B
  obtain ⟨d1, e1⟩ := x_decn hok hd (n := 0) rfl
  subst e1
  obtain ⟨g1, g2, g3, g4, g5⟩ := hR.1 a _ hN
  obtain ⟨w1, w2, w3, r, w4, cellv, q1, q2, q3, q4⟩ := hR.1 v _ hv
  cases hc.symm.trans w4
  have K := fun H' (z1 : H'[ad a]? = some ((arrV (G.2.2.2.2.1 (.object C)) n (fun j => x_tr ad (f j))).setSlot j.toNatClampNeg (.ref (ad v)))) (z2 : H'.size = H.size) (z3 : ∀ q, q ≠ ad a → H'[q]? = H[q]?) =>
    kk p e s m args below meth c ad nb H' (locs ++ [⟨ad a, j.toNatClampNeg⟩]) ls B (x_R_put hR hN (x_cok_upa g2 (v := .ref v) w1) (x_cell_upa g3 g4 (v := .ref v) z1) z3) hn he (hS.put z2 z3 (g3 rfl)) hl (List.forall_mem_cons.mp (List.forall_mem_cons.mp (List.forall_mem_cons.mp hvs).2).2).2
  obtain ⟨kA, comp, a1, a2, a3, a4⟩ := (hKn.2.1 _ g4).2.moved hW.alike
  have hcls := (u_Kn_moved hW.alike (hKn.1 ci _ hc)).2
  obtain ⟨hfc, kC, hkC, hkind⟩ := id hcls
  have hcomp : comp = G.2.2.1 ci := Option.some.inj (a3.symm.trans hfc)
  subst hcomp
  exact W.aast hx hb g5 (fun q => by intro h; cases h) (fun q => by cases q) a1 a2 rfl hkC ⟨fun h => hin (Or.inl h), by rw [arrV_size]; exact Nat.not_le.mp fun q => hin (Or.inr q)⟩ q1 (fun q => by rw [q3]; intro h; cases h) (by rw [q2]; exact hkC) (by rw [q2]; exact va_assign hcls) rfl rfl d1 K
end XR2
end
section
/-! ===== the rows: ends, entries, calls ===== -/
section XR3
variable {G : XE} {M : XMI} {d mc ms : Nat} {ad0 : Nat → Nat} {nb0 : Nat} {Qn : XH → Option Value → Prop} {Qx : XH → String → Prop} {N : XH} {cells slots pc pc' t : Nat} {L : List (Option Value)}
theorem X_iret {x : Int32} (hd : x_at (x_k M) pc = some (.ireturn, pc', t)) (hr : x_ret M = some .int) (hq : Qn N (some (.int x))) (h1 : cells ≤ mc) (h2 : slots ≤ ms) : x_W G M (x_Z G d mc ms ad0 nb0 Qn Qx) N cells slots pc L [.int x] := by
  intro p e s m args below meth c ad nb H locs ls B hR hn he hS hl hvs
  obtain ⟨d1, e1⟩ := x_decn B.2.2.2.2.2.2.2.2.2.2.2.2 hd (n := 0) rfl
  exact W.widen h1 h2 (vx_ret (W.widen (Nat.le_refl _) (Nat.le_refl _) (W.iret B.1 B.2.1 (B.2.2.2.1.trans hr) (fun t ht hWt => ⟨⟨ad, nb, N, some (.int x), rfl, hn, he, by rw [ht]; exact hR, fun v hv => by cases hv; trivial, hq⟩, hS.F ht⟩) hS.2.2 d1 B.2.2.2.2.1)))
theorem X_zret {x : Int32} {ty : FieldType} (hd : x_at (x_k M) pc = some (.ireturn, pc', t)) (hr : x_ret M = some ty) (hnr : narrow ty (.int x) = .int x) (hq : Qn N (some (.int x))) (h1 : cells ≤ mc) (h2 : slots ≤ ms) : x_W G M (x_Z G d mc ms ad0 nb0 Qn Qx) N cells slots pc L [.int x] := by
  intro p e s m args below meth c ad nb H locs ls B hR hn he hS hl hvs
  obtain ⟨d1, e1⟩ := x_decn B.2.2.2.2.2.2.2.2.2.2.2.2 hd (n := 0) rfl
  exact W.widen h1 h2 (vx_ret (W.zret B.1 B.2.1 (B.2.2.2.1.trans hr) hnr (fun t ht hWt => ⟨⟨ad, nb, N, some (.int x), rfl, hn, he, by rw [ht]; exact hR, fun v hv => by cases hv; trivial, hq⟩, hS.F ht⟩) hS.2.2 d1 B.2.2.2.2.1))
theorem X_lret {x : Int64} (hd : x_at (x_k M) pc = some (.lreturn, pc', t)) (hr : x_ret M = some .long) (hq : Qn N (some (.long x))) (h1 : cells ≤ mc) (h2 : slots ≤ ms) : x_W G M (x_Z G d mc ms ad0 nb0 Qn Qx) N cells slots pc L [.long x] := by
  intro p e s m args below meth c ad nb H locs ls B hR hn he hS hl hvs
  obtain ⟨d1, e1⟩ := x_decn B.2.2.2.2.2.2.2.2.2.2.2.2 hd (n := 0) rfl
  exact W.widen h1 h2 (vx_ret (W.lret B.1 B.2.1 (B.2.2.2.1.trans hr) (fun t ht hWt => ⟨⟨ad, nb, N, some (.long x), rfl, hn, he, by rw [ht]; exact hR, fun v hv => by cases hv; trivial, hq⟩, hS.F ht⟩) hS.2.2 d1 B.2.2.2.2.1))
theorem X_vret (hd : x_at (x_k M) pc = some (.return_, pc', t)) (hr : x_ret M = none) (hq : Qn N none) (h1 : cells ≤ mc) (h2 : slots ≤ ms) : x_W G M (x_Z G d mc ms ad0 nb0 Qn Qx) N cells slots pc L [] := by
  intro p e s m args below meth c ad nb H locs ls B hR hn he hS hl hvs
  obtain ⟨d1, e1⟩ := x_decn B.2.2.2.2.2.2.2.2.2.2.2.2 hd (n := 0) rfl
  exact W.widen h1 h2 (vx_ret (W.vret B.1 B.2.1 (B.2.2.2.1.trans hr) (fun t ht hWt => ⟨⟨ad, nb, N, none, rfl, hn, he, by rw [ht]; exact hR, fun v hv => (nomatch hv), hq⟩, hS.F ht⟩) hS.2.2 d1 B.2.2.2.2.1))
theorem X_aret {v : Value} {rt : FieldType} (hd : x_at (x_k M) pc = some (.areturn, pc', t)) (hr : x_ret M = some rt) (hrt : (∃ n, rt = .object n) ∨ ∃ t, rt = .array t) (hv : v = .null ∨ ∃ a, v = .ref a) (hq : Qn N (some v)) (h1 : cells ≤ mc) (h2 : slots ≤ ms) : x_W G M (x_Z G d mc ms ad0 nb0 Qn Qx) N cells slots pc L [v] := by
  intro p e s m args below meth c ad nb H locs ls B hR hn he hS hl hvs
  obtain ⟨d1, e1⟩ := x_decn B.2.2.2.2.2.2.2.2.2.2.2.2 hd (n := 0) rfl
  have hv' : x_tr ad v = .null ∨ ∃ a, x_tr ad v = .ref a := by
    rcases hv with rfl | ⟨a, rfl⟩
    · exact Or.inl rfl
    · exact Or.inr ⟨ad a, rfl⟩
  exact W.widen h1 h2 (vx_ret (W.aret B.1 B.2.1 (B.2.2.2.1.trans hr) hrt hv' (fun t ht hWt => ⟨⟨ad, nb, N, some v, rfl, hn, he, by rw [ht]; exact hR, fun w hw => by cases hw; exact hvs v List.mem_cons_self, hq⟩, hS.F ht⟩) hS.2.2 d1 B.2.2.2.2.1))
/-! entry -/
def x_lay : List Value → List (Option Value)
  | [] => []
  | v :: vs => bif Nat.beq v.category 2 then some v :: none :: x_lay vs else some v :: x_lay vs
theorem x_lay_get (ad : Nat → Nat) : ∀ (args : List Value) (i0 i : Nat) (v : Value), (x_lay args)[i]? = some (some v) → (i0 + i, x_tr ad v) ∈ lv_args i0 (args.map (x_tr ad)) ∧ v ∈ args
  | [], i0, i, v, h => by simp [x_lay] at h
  | w :: vs, i0, i, v, h => by
    unfold x_lay at h
    rw [List.map_cons]
    unfold lv_args
    rw [x_tr_cat]
    cases hb : Nat.beq w.category 2 with
    | true =>
      rw [hb] at h
      have hc : w.category = 2 := Nat.eq_of_beq_eq_true hb
      rw [if_pos hc]
      cases i with
      | zero =>
        simp at h
        subst h
        exact ⟨List.mem_cons_self, List.mem_cons_self⟩
      | succ i =>
        cases i with
        | zero => simp at h
        | succ i =>
          simp at h
          obtain ⟨g1, g2⟩ := x_lay_get ad vs (i0 + 2) i v h
          exact ⟨List.mem_cons_of_mem _ (by rw [show i0 + (i + 1 + 1) = i0 + 2 + i by omega]; exact g1), List.mem_cons_of_mem _ g2⟩
    | false =>
      rw [hb] at h
      have hc : ¬ w.category = 2 := fun q => by rw [q] at hb; cases hb
      rw [if_neg hc]
      cases i with
      | zero =>
        simp at h
        subst h
        exact ⟨List.mem_cons_self, List.mem_cons_self⟩
      | succ i =>
        simp at h
        obtain ⟨g1, g2⟩ := x_lay_get ad vs (i0 + 1) i v h
        exact ⟨List.mem_cons_of_mem _ (by rw [show i0 + (i + 1) = i0 + 1 + i by omega]; exact g1), List.mem_cons_of_mem _ g2⟩
theorem x_lay_len (ad : Nat → Nat) : ∀ args : List Value, (lg_sl (args.map (x_tr ad))).length = (x_lay args).length
  | [] => rfl
  | w :: vs => by
    have ih := x_lay_len ad vs
    unfold x_lay
    rw [List.map_cons]
    unfold lg_sl at ih ⊢
    rw [List.flatMap_cons, x_tr_cat, List.length_append, ih]
    cases hb : Nat.beq w.category 2 with
    | true =>
      rw [if_pos (Nat.eq_of_beq_eq_true hb)]
      simp
      omega
    | false =>
      rw [if_neg (fun q => by rw [q] at hb; cases hb)]
      simp
      omega
theorem x_word {w : Cond} (h : w ∈ x_T) : (w ∈ lw_tbl) ∧ ((w.onTables && w.keeps) = true ∨ ∃ ty, w = .arrayClass ty) := ⟨(List.mem_filter.mp h).1, good_of_word (List.mem_filter.mp h).2⟩
/-- the checks of a method's row: its bytes, its class, its code among the tables' words -/
def x_ok (M : XMI) : Prop := x_okK (x_by M) (x_k M) = true ∧ x_own M = (x_y M).cls ∧ plainName (x_y M).cls = true
theorem x_B_of {args : List Value} {ad : Nat → Nat} {nb : Nat} {p : Program} {e : Env} {s s₁ : State} {m : MethodId} {argsA : Array Value} {below : List Frame} {meth : Method} {c : Code} {rm : Room} (hG : x_Kn G) (hok : x_ok M) (B : BodyLoose p G.1 (x_y M) (headSpec (x_ws M) rm) (x_by M) (x_nL M) (x_ret M) e s m argsA below meth c s₁) (hml : c.maxLocals = x_nL M)
    (htb : c.exceptionTable.toList = tableOf (x_hh M)) (hP : x_Pc G ad nb args N argsA s) : x_B G M p s m argsA meth c := by
  have hts := atoms_spec (ws := x_ws M) B.pre
  refine ⟨B.exec, B.bytes, hml, B.returns, B.notSynchronized, ?_, fun w hw => hts w (List.mem_cons_of_mem _ hw), hP.2.2.1, hP.2.2.2.1, htb, (name_of_methodNamed B.named B.method).1, hG, hok.1⟩
  rw [hok.2.1]
  exact findClass_of_methodNamed B.named
theorem x_L_of {args : List Value} {ad : Nat → Nat} {nb : Nat} (hL : x_lay args ++ List.replicate (x_nL M - (x_lay args).length) none = L) (hlen : (x_lay args).length ≤ x_nL M) (hv : ∀ v ∈ args, x_vok nb v) :
    x_L ad nb (x_nL M) L ((lg_sl (args.map (x_tr ad)) ++ List.replicate (x_nL M - (lg_sl (args.map (x_tr ad))).length) Slot.unset).toArray) := by
  subst hL
  obtain ⟨h1, h2, h3⟩ := lv_entry (args.map (x_tr ad)) (n := x_nL M) (by rw [x_lay_len]; exact hlen)
  refine ⟨⟨h1, by simp; omega⟩, h2, fun i v hi => ?_⟩
  have hi' : (x_lay args)[i]? = some (some v) := by
    by_cases hlt : i < (x_lay args).length
    · rwa [List.getElem?_append_left hlt] at hi
    · rw [List.getElem?_append_right (by omega), List.getElem?_replicate] at hi
      split at hi
      · cases hi
      · cases hi
  obtain ⟨g1, g2⟩ := x_lay_get ad args 0 i v hi'
  rw [Nat.zero_add] at g1
  exact ⟨h3 _ g1, hv v g2⟩
/-- a method without handlers meets its contract if its body does -/
theorem X_M {args : List Value} (hG : x_Kn G) (hok : x_ok M) (hh : x_hh M = []) (hL : x_lay args ++ List.replicate (x_nL M - (x_lay args).length) none = L) (hlen : (x_lay args).length ≤ x_nL M)
    (body : ∀ (ad0 : Nat → Nat) (nb0 : Nat), x_W G M (x_Z G d mc ms ad0 nb0 Qn Qx) N 0 0 0 L []) : x_M G M d mc ms args N Qn Qx := by
  intro ad nb
  have hw : x_ws M = Cond.code (x_y M) (x_by M) (x_nL M) (x_ret M) :: x_T := by unfold x_ws; rw [hh]
  refine vx_ofW hok.2.2 hw ?_
  intro p e s m argsA below meth c s₁ B hml htb hP
  have hB := x_B_of hG hok B hml (by
    rw [hh]
    cases hc : c.exceptionTable.toList with
    | nil => rfl
    | cons a b => exact (htb a (by rw [hc]; exact List.mem_cons_self)).elim) hP
  obtain ⟨rfl, hv, hW, hk, hR⟩ := hP
  rw [lg_entry_eq]
  exact body ad nb p e s m _ below meth c ad nb s.heap [] _ hB hR (Nat.le_refl _) (fun _ _ => rfl) va_S.rf (x_L_of hL hlen hv) (fun v h => by cases h)
/-- .. with handlers -/
theorem X_MH {args : List Value} (hG : x_Kn G) (hok : x_ok M) {a : Nat × Nat × Nat × Nat} {l : List (Nat × Nat × Nat × Nat)} (hh : x_hh M = a :: l) (hL : x_lay args ++ List.replicate (x_nL M - (x_lay args).length) none = L) (hlen : (x_lay args).length ≤ x_nL M)
    (body : ∀ (ad0 : Nat → Nat) (nb0 : Nat), x_W G M (x_Z G d mc ms ad0 nb0 Qn Qx) N 0 0 0 L []) : x_M G M d mc ms args N Qn Qx := by
  intro ad nb
  have hw : x_ws M = Cond.codeWith (x_y M) (x_by M) (x_nL M) (x_ret M) (x_hh M) :: x_T := by unfold x_ws; rw [hh]
  refine vx_ofWH hok.2.2 hw ?_
  intro p e s m argsA below meth c s₁ B hml hP
  have hB := x_B_of hG hok B hml (vx_table (x := x_y M) B (atoms_spec (ws := x_ws M) B.pre _ (by rw [hw]; exact List.mem_cons_self))) hP
  obtain ⟨rfl, hv, hW, hk, hR⟩ := hP
  rw [lg_entry_eq]
  exact body ad nb p e s m _ below meth c ad nb s.heap [] _ hB hR (Nat.le_refl _) (fun _ _ => rfl) va_S.rf (x_L_of hL hlen hv) (fun v h => by cases h)
end XR3
end
section
/-! ===== the rows: calls ===== -/
section XR4
variable {G : XE} {M Mc : XMI} {Z : XZ} {N : XH} {cells slots pc pc' t : Nat} {L : List (Option Value)}
theorem x_blind {ad : Nat → Nat} {nb : Nat} {args : List Value} : FrameBlind (x_Pc G ad nb args N) := fun _ _ _ _ h => h
/-- something is thrown over this frame: of class E -/
def x_X (G : XE) (M : XMI) (Z : XZ) (N : XH) (cells slots pc : Nat) (L : List (Option Value)) (E : String) : Prop :=
  ∀ (p : Program) (e : Env) (s : State) (m : MethodId) (args : Array Value) (below : List Frame) (meth : Method) (c : Code) (ad : Nat → Nat) (nb : Nat) (H : Heap) (locs : List Loc) (ls : Array Slot) (rest : List Value) (q : Addr) (ce : Cell),
    x_B G M p s m args meth c → x_R G ad nb N H → Z.2.2.1 ≤ nb → x_ext Z.2.2.1 Z.2.1 ad → va_S (x_A G) s.heap H locs → x_L ad nb (x_nL M) L ls → H[q]? = some ce → ce.vm = .none → s.vm.findClass E = some ce.cls →
    vx_W p G.1 e Z.1 s m args below meth c H locs cells slots (Z.2.2.2 below args s) (F0 m pc ls rest) q
/-- behind a call: what the callee gives back, or throws -/
theorem x_back {mc ms : Nat} {p : Program} {e : Env} {s : State} {m : MethodId} {args : Array Value} {below : List Frame} {meth : Method} {c : Code} {ad : Nat → Nat} {nb : Nat} {H : Heap} {locs : List Loc} {ls : Array Slot} {st0 rest : List Value} {a : Array Value} {Qn : XH → Option Value → Prop} {Qx : XH → String → Prop}
    (hr : vx_Run p G.1 e Z.1 s m args below meth c H locs cells slots mc ms (F0 m pc ls st0) (rest.map (x_tr ad)) (x_Qc G ad nb Qn a) (x_XC G ad nb Qx) (x_A G)) (B : x_B G M p s m args meth c) (hn : Z.2.2.1 ≤ nb) (he : x_ext Z.2.2.1 Z.2.1 ad) (hS : va_S (x_A G) s.heap H locs) (hl : x_L ad nb (x_nL M) L ls) (hvs : ∀ v ∈ rest, x_vok nb v)
    (kx : ∀ (N' : XH) (E : String), Qx N' E → x_X G M Z N' (cells + mc) (slots + ms) pc L E) (kk : ∀ (N' : XH) (r : Option Value), Qn N' r → x_W G M Z N' (cells + mc) (slots + ms) (pc + 3) L (r.toList ++ rest)) :
    W p G.1 e Z.1 s m args below meth c H locs cells slots (Z.2.2.2 below args s) (F0 m pc ls st0) := by
  intro T hT X
  rcases hr T hT X with ⟨v, st₀, t, T', L1, h0, X', hL, e1, e2, ⟨⟨ad', nb', N', r, hv, hn', he', hR', hr', hq⟩, hF⟩, st⟩ | ⟨q, st₀, t, T', L1, E, ce, h0, X', hL, e1, e2, ⟨⟨ad', nb', N', hn', he', hR', hq⟩, hF⟩, hce, hcv, hcl, st⟩
  · cases hv
    obtain ⟨k1, k2, k3⟩ := vx_keep h0 e1 hS (fun _ _ h => h) (fun _ h => h) hL hF
    have K := kk N' r hq p e s m args below meth c ad' nb' T'.heap (locs ++ L1) ls B (by rw [e1]; exact hR') (Nat.le_trans hn hn') (fun k hk => (he' k (Nat.lt_of_lt_of_le hk hn)).trans (he k hk)) k3 (x_L_ext he' hn' hl) (fun v hv => by
      rcases List.mem_append.mp hv with h | h
      · cases r with
        | none => cases h
        | some w =>
          have : v = w := by simpa using h
          rw [this]
          exact hr' w rfl
      · exact x_vok_mono hn' (hvs v h))
    have e3 : (r.toList ++ rest).map (x_tr ad') = (r.map (x_tr ad')).toList ++ rest.map (x_tr ad) := by
      rw [List.map_append, x_map_ext he' hvs]
      cases r <;> rfl
    rw [e3] at K
    obtain ⟨t2, a1, b1⟩ := K T' rfl X'
    exact ⟨t2, st t2 a1, b1⟩
  · obtain ⟨k1, k2, k3⟩ := vx_keep h0 e1 hS (fun _ _ h => h) (fun _ h => h) hL hF
    obtain ⟨t2, a1, b1⟩ := kx N' E hq p e s m args below meth c ad' nb' T'.heap (locs ++ L1) ls (rest.map (x_tr ad)) q ce B (by rw [e1]; exact hR') (Nat.le_trans hn hn') (fun k hk => (he' k (Nat.lt_of_lt_of_le hk hn)).trans (he k hk)) k3 (x_L_ext he' hn' hl) (by rw [e1]; exact hce) hcv hcl T' rfl X'
    exact ⟨t2, st.trans a1, b1⟩
theorem x_back0 {mc ms : Nat} {p : Program} {e : Env} {s : State} {m : MethodId} {args : Array Value} {below : List Frame} {meth : Method} {c : Code} {ad : Nat → Nat} {nb : Nat} {H : Heap} {locs : List Loc} {ls : Array Slot} {st0 rest : List Value} {a : Array Value} {Qn : XH → Option Value → Prop}
    (hr : va_Run p G.1 e Z.1 s m args below meth c H locs cells slots mc ms (F0 m pc ls st0) (rest.map (x_tr ad)) (x_Qc G ad nb Qn a) (x_A G)) (B : x_B G M p s m args meth c) (hn : Z.2.2.1 ≤ nb) (he : x_ext Z.2.2.1 Z.2.1 ad) (hS : va_S (x_A G) s.heap H locs) (hl : x_L ad nb (x_nL M) L ls) (hvs : ∀ v ∈ rest, x_vok nb v)
    (kk : ∀ (N' : XH) (r : Option Value), Qn N' r → x_W G M Z N' (cells + mc) (slots + ms) (pc + 3) L (r.toList ++ rest)) :
    W p G.1 e Z.1 s m args below meth c H locs cells slots (Z.2.2.2 below args s) (F0 m pc ls st0) := by
  intro T hT X
  obtain ⟨v, st₀, t, T', L1, h0, X', hL, e1, e2, ⟨⟨ad', nb', N', r, hv, hn', he', hR', hr', hq⟩, hF⟩, st⟩ := hr T hT X
  cases hv
  obtain ⟨k1, k2, k3⟩ := vx_keep h0 e1 hS (fun _ _ h => h) (fun _ h => h) hL hF
  have K := kk N' r hq p e s m args below meth c ad' nb' T'.heap (locs ++ L1) ls B (by rw [e1]; exact hR') (Nat.le_trans hn hn') (fun k hk => (he' k (Nat.lt_of_lt_of_le hk hn)).trans (he k hk)) k3 (x_L_ext he' hn' hl) (fun v hv => by
    rcases List.mem_append.mp hv with h | h
    · cases r with
      | none => cases h
      | some w =>
        have : v = w := by simpa using h
        rw [this]
        exact hr' w rfl
    · exact x_vok_mono hn' (hvs v h))
  have e3 : (r.toList ++ rest).map (x_tr ad') = (r.map (x_tr ad')).toList ++ rest.map (x_tr ad) := by
    rw [List.map_append, x_map_ext he' hvs]
    cases r <;> rfl
  rw [e3] at K
  obtain ⟨t2, a1, b1⟩ := K T' rfl X'
  exact ⟨t2, st t2 a1, b1⟩
def x_noX : XH → String → Prop := fun _ _ => False
theorem x_Met {l : Launch} {y : MethodName} {ws : List Cond} {rm : Room} {Pc : Array Value → State → Prop} {Qc : Array Value → State → Outcome → State → Prop} {ad : Nat → Nat} {nb mc ms : Nat} {free : Addr → Prop} (h : vx_Met l y ws rm Pc Qc (x_XC G ad nb x_noX) mc ms free) : Met l y ws rm Pc Qc mc ms free := by
  intro p e ha hc hk s m args below hf happ hp hK
  obtain ⟨k, o, h1, h2, h3, h4⟩ := h p e ha hc hk s m args below hf happ hp hK
  refine ⟨k, o, h1, h2, h3, ?_⟩
  rcases h4 with h4 | ⟨q, -, E, ce, L1, ⟨⟨_, _, _, _, _, _, hx⟩, -⟩, -⟩
  · exact h4
  · exact hx.elim
/-- the callee's row: its code is among the words, its descriptor has n parameters -/
def x_Cw (Mc : XMI) (n : Nat) : Prop :=
  (match x_hh Mc with | [] => Cond.code (x_y Mc) (x_by Mc) (x_nL Mc) (x_ret Mc) | hh => Cond.codeWith (x_y Mc) (x_by Mc) (x_nL Mc) (x_ret Mc) hh) ∈ x_T ∧ Cond.initialized (x_y Mc).cls ∈ x_T ∧ ((x_y Mc).cls ≠ "java/lang/invoke/MethodHandle" ∧ (x_y Mc).cls ≠ "java/lang/invoke/VarHandle") ∧ (parseMethodDescriptor (x_y Mc).desc).map (fun d => d.parameters.length) = some n
theorem x_len_of {y : MethodName} {n : Nat} (h : (parseMethodDescriptor y.desc).map (fun d => d.parameters.length) = some n) : ∀ sig, parseMethodDescriptor y.desc = some sig → n = sig.parameters.length := fun sig hs => by
  rw [hs] at h
  exact (Option.some.inj h).symm
theorem x_pay {s : State} {args : Array Value} (hts : ∀ w ∈ x_T, w.before args s = true) {n : Nat} (hw : x_Cw Mc n) : ∀ w ∈ x_ws Mc, ∀ (a' : Array Value) (U : State), s.WarmedH U.vm → w.before a' U = true := by
  intro w h a' U hW
  have hm : w ∈ x_T := by
    rcases List.mem_cons.mp h with e | h
    · rw [e]; exact hw.1
    · exact h
  exact word_at hW (x_word hm).2 (hts w hm)
/-- room for a call: one frame more -/
def x_fit (Z : XZ) (cells slots : Nat) (Mc : XMI) (d mc ms : Nat) : Prop := d + 1 ≤ Z.1.frames ∧ 8 + (x_nL Mc + 11) + 100 * d ≤ Z.1.locals ∧ cells + mc ≤ Z.1.cells ∧ slots + ms ≤ Z.1.slots
def x_LV (own : String) (idx n : Nat) (Mc : XMI) : Prop := x_Cw Mc n ∧ x_hh Mc = [] ∧ Cond.methodLink own idx (x_y Mc) ∈ x_T ∧ Cond.instanceMethod (x_y Mc) ∈ x_T ∧ Cond.selects (x_y Mc).cls (x_y Mc) (x_y Mc) ∈ x_T
theorem x_map_split {ad : Nat → Nat} {st As rest : List Value} {o : Nat} (h : st = As.reverse ++ .ref o :: rest) : st.map (x_tr ad) = (As.map (x_tr ad)).reverse ++ .ref (ad o) :: rest.map (x_tr ad) := by
  rw [h, List.map_append, List.map_reverse]; rfl
theorem x_cat_sum (ad : Nat → Nat) (st : List Value) : ((st.map (x_tr ad)).map fun v => v.category).sum = (st.map fun v => v.category).sum := by
  rw [List.map_map]
  congr 1
  exact List.map_congr_left fun v _ => x_tr_cat ad v
theorem X_callV {idx n d mc ms o ci nf : Nat} {T : u_T} {V : Nat → Value} {st As rest : List Value} {Qn : XH → Option Value → Prop} {Qx : XH → String → Prop} (hk : x_LV (x_own M) idx n Mc) (hM : x_M G Mc d mc ms (.ref o :: As) N Qn Qx)
    (hd : x_at (x_k M) pc = some (.invokevirtual idx, pc', t)) (hst : st = As.reverse ++ .ref o :: rest) (hN : N o = some (.inl (ci, V))) (hci : vwCl[ci]? = some ((x_y Mc).cls, T, nf)) (hn : As.length = n) (hrest : (rest.map fun v => v.category).sum ≤ 8) (hfit : x_fit Z cells slots Mc d mc ms)
    (kx : ∀ (N' : XH) (E : String), Qx N' E → x_X G M Z N' (cells + mc) (slots + ms) pc L E) (kk : ∀ (N' : XH) (r : Option Value), Qn N' r → x_W G M Z N' (cells + mc) (slots + ms) pc' L (r.toList ++ rest)) : x_W G M Z N cells slots pc L st := by
  intro p e s m args below meth c ad nb H locs ls B hR hnb he hS hl hvs
  obtain ⟨hx, hb, hml, hr, hlk, hown, hts, hW, hkp, htb, hnm, hKn, hok⟩ := id B
  obtain ⟨d1, e1⟩ := x_decn hok hd (n := 2) rfl
  subst e1
  obtain ⟨hw, hh, hk1, hk2, hk3⟩ := hk
  obtain ⟨hw1, hw2, hw3, hw4⟩ := id hw
  rw [hh] at hw1
  have hvA : ∀ v ∈ Value.ref o :: As, x_vok nb v := fun v hv => hvs v (by
    rw [hst]
    rcases List.mem_cons.mp hv with h | h
    · exact List.mem_append_right _ (by rw [h]; exact List.mem_cons_self)
    · exact List.mem_append_left _ (List.mem_reverse.mpr h))
  have hvR : ∀ v ∈ rest, x_vok nb v := fun v hv => hvs v (by rw [hst]; exact List.mem_append_right _ (List.mem_cons_of_mem _ hv))
  obtain ⟨g1, g2, g3, r, g4, cell, q1, q2, q3, q4⟩ := hR.1 o _ hN
  have hcl := (u_Kn_moved hW.alike (hKn.1 ci _ hci)).2.1
  have hrun := vx_runV (rest := rest.map (x_tr ad)) (As := As.map (x_tr ad)) (b := ad o) (C := (x_y Mc).cls) (nL := x_nL M) (g := F0 m pc ls (st.map (x_tr ad))) (cells := cells) (slots := slots) (e := e) (below := below) (meth := meth) (locs := locs) ⟨hx, hb, hml, hown, hts⟩ (hM ad nb)
    ⟨⟨rfl, rfl, hfit.1, hfit.2.1, x_pay hts hw, by unfold x_ws; rw [hh]; exact List.mem_cons_self, hts _ hw1, hts _ hw2, hw3, x_len_of hw4, hts _ hk1⟩, hts _ hk2, hts _ hk3⟩
    ⟨x_blind, ⟨cell, q1, by rw [q3]; rfl, by rw [q2]; exact hcl⟩, fun U hU hWU => ⟨rfl, hvA, hW.trans hWU, by rw [hU]; exact ⟨x_n0_le hkp hS, fun q hq => (hS.2.1 q (Nat.lt_of_lt_of_le hq hkp.1) (Nat.not_le.mpr hq)).trans (hkp.2 q hq)⟩, by rw [hU]; exact hR⟩⟩
    rfl (by rw [List.length_map]; exact hn) hl.1.1 (x_map_split hst) (lv_room (by rw [x_cat_sum]; exact hrest)) d1 ⟨hfit.2.2.1, hfit.2.2.2⟩
  exact x_back (Qn := Qn) (Qx := Qx) hrun B hnb he hS hl hvR kx kk
/-- what the callee may take as given -/
theorem x_pre {p : Program} {s : State} {m : MethodId} {args : Array Value} {meth : Method} {c : Code} {ad : Nat → Nat} {nb : Nat} {H : Heap} {locs : List Loc} {As : List Value} (B : x_B G M p s m args meth c) (hR : x_R G ad nb N H) (hS : va_S (x_A G) s.heap H locs) (hv : ∀ v ∈ As, x_vok nb v) (U : State) (hU : U.heap = H) (hWU : s.WarmedH U.vm) : x_Pc G ad nb As N (As.map (x_tr ad)).toArray U := by
  obtain ⟨hx, hb, hml, hr, hlk, hown, hts, hW, hkp, htb, hnm, hKn, hok⟩ := B
  exact ⟨rfl, hv, hW.trans hWU, by rw [hU]; exact ⟨x_n0_le hkp hS, fun q hq => (hS.2.1 q (Nat.lt_of_lt_of_le hq hkp.1) (Nat.not_le.mpr hq)).trans (hkp.2 q hq)⟩, by rw [hU]; exact hR⟩
theorem x_nestM {s : State} {args : Array Value} (hK : x_Kn G) (hW : G.2.1.WarmedH s.vm) {own host : String} {idx : Nat} {y : MethodName} (h : Cond.methodLinkNest own idx y host ∈ lw_tbl) : va_Nw (.methodLinkNest own idx y host) s := va_Nw.warmM hW (hK.2.2.1.1 _ h rfl)
def x_LS (own : String) (idx n : Nat) (Mc : XMI) : Prop := x_Cw Mc n ∧ x_hh Mc = [] ∧ Cond.static (x_y Mc) ∈ x_T ∧ Cond.methodLink own idx (x_y Mc) ∈ x_T
theorem X_callS {idx n d mc ms : Nat} {st As rest : List Value} {Qn : XH → Option Value → Prop} {Qx : XH → String → Prop} (hk : x_LS (x_own M) idx n Mc) (hM : x_M G Mc d mc ms As N Qn Qx)
    (hd : x_at (x_k M) pc = some (.invokestatic idx, pc', t)) (hst : st = As.reverse ++ rest) (hn : As.length = n) (hrest : (rest.map fun v => v.category).sum ≤ 8) (hfit : x_fit Z cells slots Mc d mc ms)
    (kx : ∀ (N' : XH) (E : String), Qx N' E → x_X G M Z N' (cells + mc) (slots + ms) pc L E) (kk : ∀ (N' : XH) (r : Option Value), Qn N' r → x_W G M Z N' (cells + mc) (slots + ms) pc' L (r.toList ++ rest)) : x_W G M Z N cells slots pc L st := by
  intro p e s m args below meth c ad nb H locs ls B hR hnb he hS hl hvs
  obtain ⟨hx, hb, hml, hr, hlk, hown, hts, hW, hkp, htb, hnm, hKn, hok⟩ := id B
  obtain ⟨d1, e1⟩ := x_decn hok hd (n := 2) rfl
  subst e1
  subst hst
  obtain ⟨hw, hh, hk1, hk2⟩ := hk
  obtain ⟨hw1, hw2, hw3, hw4⟩ := id hw
  rw [hh] at hw1
  have hvA : ∀ v ∈ As, x_vok nb v := fun v hv => hvs v (List.mem_append_left _ (List.mem_reverse.mpr hv))
  have hvR : ∀ v ∈ rest, x_vok nb v := fun v hv => hvs v (List.mem_append_right _ hv)
  have hsp : (As.reverse ++ rest).map (x_tr ad) = (As.map (x_tr ad)).reverse ++ rest.map (x_tr ad) := by rw [List.map_append, List.map_reverse]
  have hrun := vx_runS (rest := rest.map (x_tr ad)) (As := As.map (x_tr ad)) (nL := x_nL M) (g := F0 m pc ls ((As.reverse ++ rest).map (x_tr ad))) (cells := cells) (slots := slots) (e := e) (below := below) (meth := meth) (locs := locs) ⟨hx, hb, hml, hown, hts⟩ (hM ad nb)
    ⟨⟨rfl, rfl, hfit.1, hfit.2.1, x_pay hts hw, by unfold x_ws; rw [hh]; exact List.mem_cons_self, hts _ hw1, hts _ hw2, hw3, x_len_of hw4, hts _ hk2⟩, hts _ hk1⟩
    ⟨x_blind, fun U hU hWU => x_pre B hR hS hvA U hU hWU⟩
    rfl (by rw [List.length_map]; exact hn) hl.1.1 hsp (lv_room (by rw [x_cat_sum]; exact hrest)) d1 ⟨hfit.2.2.1, hfit.2.2.2⟩
  exact x_back (Qn := Qn) (Qx := Qx) hrun B hnb he hS hl hvR kx kk
/-- a static method with handlers -/
def x_LSX (own : String) (idx n : Nat) (Mc : XMI) : Prop := x_Cw Mc n ∧ (∃ a l, x_hh Mc = a :: l) ∧ Cond.static (x_y Mc) ∈ x_T ∧ Cond.methodLink own idx (x_y Mc) ∈ x_T
theorem X_callSX {idx n d mc ms : Nat} {st As rest : List Value} {Qn : XH → Option Value → Prop} {Qx : XH → String → Prop} (hk : x_LSX (x_own M) idx n Mc) (hM : x_M G Mc d mc ms As N Qn Qx)
    (hd : x_at (x_k M) pc = some (.invokestatic idx, pc', t)) (hst : st = As.reverse ++ rest) (hn : As.length = n) (hrest : (rest.map fun v => v.category).sum ≤ 8) (hfit : x_fit Z cells slots Mc d mc ms)
    (kx : ∀ (N' : XH) (E : String), Qx N' E → x_X G M Z N' (cells + mc) (slots + ms) pc L E) (kk : ∀ (N' : XH) (r : Option Value), Qn N' r → x_W G M Z N' (cells + mc) (slots + ms) pc' L (r.toList ++ rest)) : x_W G M Z N cells slots pc L st := by
  intro p e s m args below meth c ad nb H locs ls B hR hnb he hS hl hvs
  obtain ⟨hx, hb, hml, hr, hlk, hown, hts, hW, hkp, htb, hnm, hKn, hok⟩ := id B
  obtain ⟨d1, e1⟩ := x_decn hok hd (n := 2) rfl
  subst e1
  subst hst
  obtain ⟨hw, ⟨a0, l0, hh⟩, hk1, hk2⟩ := hk
  obtain ⟨hw1, hw2, hw3, hw4⟩ := id hw
  rw [hh] at hw1
  have hvA : ∀ v ∈ As, x_vok nb v := fun v hv => hvs v (List.mem_append_left _ (List.mem_reverse.mpr hv))
  have hvR : ∀ v ∈ rest, x_vok nb v := fun v hv => hvs v (List.mem_append_right _ hv)
  have hsp : (As.reverse ++ rest).map (x_tr ad) = (As.map (x_tr ad)).reverse ++ rest.map (x_tr ad) := by rw [List.map_append, List.map_reverse]
  have hrun := vx_runSX (hh := a0 :: l0) (rest := rest.map (x_tr ad)) (As := As.map (x_tr ad)) (nL := x_nL M) (g := F0 m pc ls ((As.reverse ++ rest).map (x_tr ad))) (cells := cells) (slots := slots) (e := e) (below := below) (meth := meth) (locs := locs) ⟨hx, hb, hml, hown, hts⟩ (hM ad nb)
    ⟨⟨rfl, rfl, hfit.1, hfit.2.1, x_pay hts hw, by unfold x_ws; rw [hh]; exact List.mem_cons_self⟩, hts _ hw1, hts _ hw2, hw3, x_len_of hw4, hts _ hk2, hts _ hk1⟩
    ⟨x_blind, fun U hU hWU => x_pre B hR hS hvA U hU hWU⟩
    rfl (by rw [List.length_map]; exact hn) hl.1.1 hsp (lv_room (by rw [x_cat_sum]; exact hrest)) d1 ⟨hfit.2.2.1, hfit.2.2.2⟩
  exact x_back (Qn := Qn) (Qx := Qx) hrun B hnb he hS hl hvR kx kk
/-- a static method of a nest mate -/
def x_LSN (own : String) (idx n : Nat) (Mc : XMI) (host : String) : Prop := x_Cw Mc n ∧ x_hh Mc = [] ∧ Cond.static (x_y Mc) ∈ x_T ∧ Cond.methodLinkNest own idx (x_y Mc) host ∈ lw_tbl
theorem X_callSN {idx n d mc ms : Nat} {host : String} {st As rest : List Value} {Qn : XH → Option Value → Prop} (hk : x_LSN (x_own M) idx n Mc host) (hM : x_M G Mc d mc ms As N Qn x_noX)
    (hd : x_at (x_k M) pc = some (.invokestatic idx, pc', t)) (hst : st = As.reverse ++ rest) (hn : As.length = n) (hrest : (rest.map fun v => v.category).sum ≤ 8) (hfit : x_fit Z cells slots Mc d mc ms)
    (kk : ∀ (N' : XH) (r : Option Value), Qn N' r → x_W G M Z N' (cells + mc) (slots + ms) pc' L (r.toList ++ rest)) : x_W G M Z N cells slots pc L st := by
  intro p e s m args below meth c ad nb H locs ls B hR hnb he hS hl hvs
  obtain ⟨hx, hb, hml, hr, hlk, hown, hts, hW, hkp, htb, hnm, hKn, hok⟩ := id B
  obtain ⟨d1, e1⟩ := x_decn hok hd (n := 2) rfl
  subst e1
  subst hst
  obtain ⟨hw, hh, hk1, hk2⟩ := hk
  obtain ⟨hw1, hw2, hw3, hw4⟩ := id hw
  rw [hh] at hw1
  have hvA : ∀ v ∈ As, x_vok nb v := fun v hv => hvs v (List.mem_append_left _ (List.mem_reverse.mpr hv))
  have hvR : ∀ v ∈ rest, x_vok nb v := fun v hv => hvs v (List.mem_append_right _ hv)
  have hsp : (As.reverse ++ rest).map (x_tr ad) = (As.map (x_tr ad)).reverse ++ rest.map (x_tr ad) := by rw [List.map_append, List.map_reverse]
  have hrun := va_runSN (rest := rest.map (x_tr ad)) (As := As.map (x_tr ad)) (nL := x_nL M) (g := F0 m pc ls ((As.reverse ++ rest).map (x_tr ad))) (cells := cells) (slots := slots) (e := e) (below := below) (meth := meth) (locs := locs) ⟨hx, hb, hml, hown, hts⟩ (x_Met (hM ad nb))
    ⟨⟨⟨rfl, rfl, hfit.1, hfit.2.1, x_pay hts hw, by unfold x_ws; rw [hh]; exact List.mem_cons_self⟩, hts _ hw1, hts _ hw2, hw3, x_len_of hw4, va_Nw.use rfl (x_nestM (args := args) hKn hW hk2)⟩, hts _ hk1, trivial⟩
    ⟨x_blind, fun U hU hWU => x_pre B hR hS hvA U hU hWU⟩
    rfl (by rw [List.length_map]; exact hn) hl.1.1 hsp (lv_room (by rw [x_cat_sum]; exact hrest)) d1 ⟨hfit.2.2.1, hfit.2.2.2⟩
  exact x_back0 (Qn := Qn) hrun B hnb he hS hl hvR kk
/-- a constructor of ours -/
def x_LI (own : String) (idx n : Nat) (Mc : XMI) : Prop := x_Cw Mc n ∧ x_hh Mc = [] ∧ x_ret Mc = none ∧ (x_y Mc).name = "<init>" ∧ Cond.instanceMethod (x_y Mc) ∈ x_T ∧ Cond.methodLink own idx (x_y Mc) ∈ x_T
def x_LIN (own : String) (idx n : Nat) (Mc : XMI) (host : String) : Prop := x_Cw Mc n ∧ x_hh Mc = [] ∧ x_ret Mc = none ∧ (x_y Mc).name = "<init>" ∧ Cond.instanceMethod (x_y Mc) ∈ x_T ∧ Cond.methodLinkNest own idx (x_y Mc) host ∈ lw_tbl
theorem X_callI {idx n d mc ms o : Nat} {st As rest : List Value} {Qn : XH → Option Value → Prop} (hk : x_LI (x_own M) idx n Mc) (hM : x_M G Mc d mc ms (.ref o :: As) N Qn x_noX)
    (hd : x_at (x_k M) pc = some (.invokespecial idx, pc', t)) (hst : st = As.reverse ++ .ref o :: rest) (hn : As.length = n) (hrest : (rest.map fun v => v.category).sum ≤ 8) (hfit : x_fit Z cells slots Mc d mc ms)
    (kk : ∀ (N' : XH) (r : Option Value), Qn N' r → x_W G M Z N' (cells + mc) (slots + ms) pc' L (r.toList ++ rest)) : x_W G M Z N cells slots pc L st := by
  intro p e s m args below meth c ad nb H locs ls B hR hnb he hS hl hvs
  obtain ⟨hx, hb, hml, hr, hlk, hown, hts, hW, hkp, htb, hnm, hKn, hok⟩ := id B
  obtain ⟨d1, e1⟩ := x_decn hok hd (n := 2) rfl
  subst e1
  subst hst
  obtain ⟨hw, hh, hrt, hk1, hk2, hk3⟩ := hk
  obtain ⟨hw1, hw2, hw3, hw4⟩ := id hw
  rw [hh, hrt] at hw1
  have hvA : ∀ v ∈ Value.ref o :: As, x_vok nb v := fun v hv => hvs v (by
    rcases List.mem_cons.mp hv with h | h
    · exact List.mem_append_right _ (by rw [h]; exact List.mem_cons_self)
    · exact List.mem_append_left _ (List.mem_reverse.mpr h))
  have hvR : ∀ v ∈ rest, x_vok nb v := fun v hv => hvs v (List.mem_append_right _ (List.mem_cons_of_mem _ hv))
  have hrun := va_runI (rest := rest.map (x_tr ad)) (As := As.map (x_tr ad)) (b := ad o) (nL := x_nL M) (g := F0 m pc ls ((As.reverse ++ .ref o :: rest).map (x_tr ad))) (cells := cells) (slots := slots) (e := e) (below := below) (meth := meth) (locs := locs) ⟨hx, hb, hml, hown, hts⟩ (x_Met (hM ad nb))
    ⟨⟨rfl, rfl, hfit.1, hfit.2.1, x_pay hts hw, by unfold x_ws; rw [hh, hrt]; exact List.mem_cons_self, hts _ hw1, hts _ hw2, hw3, x_len_of hw4, hts _ hk3⟩, hk1, hts _ hk2⟩
    ⟨x_blind, fun U hU hWU => x_pre B hR hS hvA U hU hWU⟩
    rfl (by rw [List.length_map]; exact hn) hl.1.1 (x_map_split rfl) (lv_room (by rw [x_cat_sum]; exact hrest)) d1 ⟨hfit.2.2.1, hfit.2.2.2⟩
  exact x_back0 (Qn := Qn) hrun B hnb he hS hl hvR kk
theorem X_callIN {idx n d mc ms o : Nat} {host : String} {st As rest : List Value} {Qn : XH → Option Value → Prop} (hk : x_LIN (x_own M) idx n Mc host) (hM : x_M G Mc d mc ms (.ref o :: As) N Qn x_noX)
    (hd : x_at (x_k M) pc = some (.invokespecial idx, pc', t)) (hst : st = As.reverse ++ .ref o :: rest) (hn : As.length = n) (hrest : (rest.map fun v => v.category).sum ≤ 8) (hfit : x_fit Z cells slots Mc d mc ms)
    (kk : ∀ (N' : XH) (r : Option Value), Qn N' r → x_W G M Z N' (cells + mc) (slots + ms) pc' L (r.toList ++ rest)) : x_W G M Z N cells slots pc L st := by
  intro p e s m args below meth c ad nb H locs ls B hR hnb he hS hl hvs
  obtain ⟨hx, hb, hml, hr, hlk, hown, hts, hW, hkp, htb, hnm, hKn, hok⟩ := id B
  obtain ⟨d1, e1⟩ := x_decn hok hd (n := 2) rfl
  subst e1
  subst hst
  obtain ⟨hw, hh, hrt, hk1, hk2, hk3⟩ := hk
  obtain ⟨hw1, hw2, hw3, hw4⟩ := id hw
  rw [hh, hrt] at hw1
  have hvA : ∀ v ∈ Value.ref o :: As, x_vok nb v := fun v hv => hvs v (by
    rcases List.mem_cons.mp hv with h | h
    · exact List.mem_append_right _ (by rw [h]; exact List.mem_cons_self)
    · exact List.mem_append_left _ (List.mem_reverse.mpr h))
  have hvR : ∀ v ∈ rest, x_vok nb v := fun v hv => hvs v (List.mem_append_right _ (List.mem_cons_of_mem _ hv))
  have hrun := va_runIN (rest := rest.map (x_tr ad)) (As := As.map (x_tr ad)) (b := ad o) (nL := x_nL M) (g := F0 m pc ls ((As.reverse ++ .ref o :: rest).map (x_tr ad))) (cells := cells) (slots := slots) (e := e) (below := below) (meth := meth) (locs := locs) ⟨hx, hb, hml, hown, hts⟩ (x_Met (hM ad nb))
    ⟨⟨⟨rfl, rfl, hfit.1, hfit.2.1, x_pay hts hw, by unfold x_ws; rw [hh, hrt]; exact List.mem_cons_self⟩, hts _ hw1, hts _ hw2, hw3, x_len_of hw4, va_Nw.use rfl (x_nestM (args := args) hKn hW hk3)⟩, hk1, hts _ hk2⟩
    ⟨x_blind, fun U hU hWU => x_pre B hR hS hvA U hU hWU⟩
    rfl (by rw [List.length_map]; exact hn) hl.1.1 (x_map_split rfl) (lv_room (by rw [x_cat_sum]; exact hrest)) d1 ⟨hfit.2.2.1, hfit.2.2.2⟩
  exact x_back0 (Qn := Qn) hrun B hnb he hS hl hvR kk
/-- Object's constructor -/
theorem X_obj {idx o : Nat} {st : List Value} (h1 : Cond.methodLink (x_own M) idx Lib.objectInit ∈ x_T) (h2 : Cond.instanceMethod Lib.objectInit ∈ x_T) (h3 : Cond.code Lib.objectInit ⟨#[0xb1]⟩ 1 none ∈ x_T) (hd : x_at (x_k M) pc = some (.invokespecial idx, pc', t)) (hf : 1 ≤ Z.1.frames) (hlo : (st.map fun v => v.category).sum + 12 ≤ Z.1.locals) (kk : x_W G M Z N cells slots pc' L st) : x_W G M Z N cells slots pc L (.ref o :: st) := by
  intro p e s m args below meth c ad nb H locs ls B hR hnb he hS hl hvs
  obtain ⟨hx, hb, hml, hr, hlk, hown, hts, hW, hkp, htb, hnm, hKn, hok⟩ := id B
  obtain ⟨d1, e1⟩ := x_decn hok hd (n := 2) rfl
  subst e1
  have hm : (F0 m pc ls ((Value.ref o :: st).map (x_tr ad))).monitorRoom = 0 := rfl
  exact W.objInit hx hb hown (hts _ h1) (hts _ h2) (hts _ h3) rfl (hl.1.1.trans hml.symm) rfl d1 hf (by rw [hm, x_cat_sum]; omega) (kk p e s m args below meth c ad nb H locs ls B hR hnb he hS hl (List.forall_mem_cons.mp hvs).2)
/-- a call whose named method is abstract: the receiver's class has its own -/
def x_LU (own : String) (idx n : Nat) (x : MethodName) (Mc : XMI) : Prop := x_Cw Mc n ∧ x_hh Mc = [] ∧ Cond.methodLink own idx x ∈ x_T ∧ Cond.sameMethod x.cls x.cls x.name x.desc ∈ x_T ∧ Cond.selects (x_y Mc).cls x (x_y Mc) ∈ x_T ∧ Cond.instanceMethod (x_y Mc) ∈ x_T ∧ Cond.declares ⟨x.cls, x.name, x.desc⟩ ∈ lw_tbl ∧ (x.cls ≠ "java/lang/invoke/MethodHandle" ∧ x.cls ≠ "java/lang/invoke/VarHandle") ∧ x.desc = (x_y Mc).desc
theorem X_callU {idx n d mc ms o ci nf : Nat} {x : MethodName} {T : u_T} {V : Nat → Value} {st As rest : List Value} {Qn : XH → Option Value → Prop} (hk : x_LU (x_own M) idx n x Mc) (hM : x_M G Mc d mc ms (.ref o :: As) N Qn x_noX)
    (hd : x_at (x_k M) pc = some (.invokevirtual idx, pc', t)) (hst : st = As.reverse ++ .ref o :: rest) (hN : N o = some (.inl (ci, V))) (hci : vwCl[ci]? = some ((x_y Mc).cls, T, nf)) (hn : As.length = n) (hrest : (rest.map fun v => v.category).sum ≤ 8) (hfit : x_fit Z cells slots Mc d mc ms)
    (kk : ∀ (N' : XH) (r : Option Value), Qn N' r → x_W G M Z N' (cells + mc) (slots + ms) pc' L (r.toList ++ rest)) : x_W G M Z N cells slots pc L st := by
  intro p e s m args below meth c ad nb H locs ls B hR hnb he hS hl hvs
  obtain ⟨hx, hb, hml, hr, hlk, hown, hts, hW, hkp, htb, hnm, hKn, hok⟩ := id B
  obtain ⟨d1, e1⟩ := x_decn hok hd (n := 2) rfl
  subst e1
  subst hst
  obtain ⟨hw, hh, hk1, hk2, hk3, hk4, hk5, hk6, hk7⟩ := hk
  obtain ⟨hw1, hw2, hw3, hw4⟩ := id hw
  rw [hh] at hw1
  have hvA : ∀ v ∈ Value.ref o :: As, x_vok nb v := fun v hv => hvs v (by
    rcases List.mem_cons.mp hv with h | h
    · exact List.mem_append_right _ (by rw [h]; exact List.mem_cons_self)
    · exact List.mem_append_left _ (List.mem_reverse.mpr h))
  have hvR : ∀ v ∈ rest, x_vok nb v := fun v hv => hvs v (List.mem_append_right _ (List.mem_cons_of_mem _ hv))
  obtain ⟨g1, g2, g3, r, g4, cell, q1, q2, q3, q4⟩ := hR.1 o _ hN
  have hcl := (u_Kn_moved hW.alike (hKn.1 ci _ hci)).2.1
  have hdec : va_Decl s ⟨x.cls, x.name, x.desc⟩ := va_Decl.abs (va_Nw.warmD hW (hKn.2.2.1.1 _ hk5 rfl))
  have hrun := va_runU (x := x) (owner := x.cls) (rest := rest.map (x_tr ad)) (As := As.map (x_tr ad)) (b := ad o) (C := (x_y Mc).cls) (nL := x_nL M) (g := F0 m pc ls ((As.reverse ++ .ref o :: rest).map (x_tr ad))) (cells := cells) (slots := slots) (e := e) (below := below) (meth := meth) (locs := locs) ⟨hx, hb, hml, hown, hts⟩ (x_Met (hM ad nb))
    ⟨⟨rfl, rfl, hfit.1, hfit.2.1, x_pay hts hw, by unfold x_ws; rw [hh]; exact List.mem_cons_self⟩, hts _ hw1, hts _ hw2, hk6, by rw [hk7]; exact x_len_of hw4, hts _ hk1, hts _ hk2, hdec, hts _ hk3, hts _ hk4⟩
    ⟨x_blind, ⟨cell, q1, by rw [q3]; rfl, by rw [q2]; exact hcl⟩, fun U hU hWU => x_pre B hR hS hvA U hU hWU⟩
    rfl (by rw [List.length_map]; exact hn) hl.1.1 (x_map_split rfl) (lv_room (by rw [x_cat_sum]; exact hrest)) d1 ⟨hfit.2.2.1, hfit.2.2.2⟩
  exact x_back0 (Qn := Qn) hrun B hnb he hS hl hvR kk
end XR4
end
