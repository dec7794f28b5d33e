section
-- ===== PART A: goes FIRST, ahead of the names: the tables' words, and 'selects' of the private methods out of them =====
/-- a private method of a class that the tables say can be made, by its rows of tables_1 -/
def lw_okq (q : MethodName × Nat) : Prop := (q.1.cls ≠ "java/lang/invoke/MethodHandle" ∧ q.1.cls ≠ "java/lang/invoke/VarHandle") ∧ Cond.instantiable q.1.cls q.2 ∈ tables_1 ∧ Cond.privateMethod q.1 ∈ tables_1 ∧ Cond.instanceMethod q.1 ∈ tables_1
theorem lw_p0 : lw_okq (⟨"PreparedPlans", "appendWord", "(I)V"⟩, 7) := ⟨⟨by decide +kernel, by decide +kernel⟩, List.mem_of_getElem? (i := 33) (by decide +kernel), List.mem_of_getElem? (i := 294) (by decide +kernel), List.mem_of_getElem? (i := 295) (by decide +kernel)⟩
theorem lw_p1 : lw_okq (⟨"PreparedPlans", "spareCopy", "()LPreparedPlans$Data;"⟩, 7) := ⟨⟨by decide +kernel, by decide +kernel⟩, List.mem_of_getElem? (i := 33) (by decide +kernel), List.mem_of_getElem? (i := 306) (by decide +kernel), List.mem_of_getElem? (i := 307) (by decide +kernel)⟩
theorem lw_p2 : lw_okq (⟨"PreparedPlans", "spareSlot", "()I"⟩, 7) := ⟨⟨by decide +kernel, by decide +kernel⟩, List.mem_of_getElem? (i := 33) (by decide +kernel), List.mem_of_getElem? (i := 310) (by decide +kernel), List.mem_of_getElem? (i := 311) (by decide +kernel)⟩
theorem lw_p3 : lw_okq (⟨"PreparedPlans", "current", "()LPreparedPlans$Data;"⟩, 7) := ⟨⟨by decide +kernel, by decide +kernel⟩, List.mem_of_getElem? (i := 33) (by decide +kernel), List.mem_of_getElem? (i := 314) (by decide +kernel), List.mem_of_getElem? (i := 315) (by decide +kernel)⟩
theorem lw_p4 : lw_okq (⟨"PreparedPlans$Data", "takeStatisticsOf", "(I)V"⟩, 7) := ⟨⟨by decide +kernel, by decide +kernel⟩, List.mem_of_getElem? (i := 155) (by decide +kernel), List.mem_of_getElem? (i := 339) (by decide +kernel), List.mem_of_getElem? (i := 340) (by decide +kernel)⟩
theorem lw_p5 : lw_okq (⟨"PreparedPlans$Data", "isFirst", "(II)Z"⟩, 7) := ⟨⟨by decide +kernel, by decide +kernel⟩, List.mem_of_getElem? (i := 155) (by decide +kernel), List.mem_of_getElem? (i := 356) (by decide +kernel), List.mem_of_getElem? (i := 357) (by decide +kernel)⟩
theorem lw_p6 : lw_okq (⟨"PreparedPlans", "takeSpare", "()V"⟩, 7) := ⟨⟨by decide +kernel, by decide +kernel⟩, List.mem_of_getElem? (i := 33) (by decide +kernel), List.mem_of_getElem? (i := 360) (by decide +kernel), List.mem_of_getElem? (i := 361) (by decide +kernel)⟩
theorem lw_p7 : lw_okq (⟨"java/lang/Throwable", "fillInStackTrace", "(I)Ljava/lang/Throwable;"⟩, 6) := ⟨⟨by decide +kernel, by decide +kernel⟩, List.mem_of_getElem? (i := 420) (by decide +kernel), List.mem_of_getElem? (i := 418) (by decide +kernel), List.mem_of_getElem? (i := 419) (by decide +kernel)⟩
theorem lw_p8 : lw_okq (⟨"PreparedPlans", "checkColumn", "(I)V"⟩, 7) := ⟨⟨by decide +kernel, by decide +kernel⟩, List.mem_of_getElem? (i := 33) (by decide +kernel), List.mem_of_getElem? (i := 453) (by decide +kernel), List.mem_of_getElem? (i := 454) (by decide +kernel)⟩
theorem lw_p9 : lw_okq (⟨"PreparedPlans", "checkRow", "(I)V"⟩, 7) := ⟨⟨by decide +kernel, by decide +kernel⟩, List.mem_of_getElem? (i := 33) (by decide +kernel), List.mem_of_getElem? (i := 481) (by decide +kernel), List.mem_of_getElem? (i := 482) (by decide +kernel)⟩
theorem lw_p10 : lw_okq (⟨"PreparedPlans", "addStatement", "(JI)J"⟩, 7) := ⟨⟨by decide +kernel, by decide +kernel⟩, List.mem_of_getElem? (i := 33) (by decide +kernel), List.mem_of_getElem? (i := 487) (by decide +kernel), List.mem_of_getElem? (i := 488) (by decide +kernel)⟩
theorem lw_p11 : lw_okq (⟨"PreparedPlans", "checkStatement", "(I)V"⟩, 7) := ⟨⟨by decide +kernel, by decide +kernel⟩, List.mem_of_getElem? (i := 33) (by decide +kernel), List.mem_of_getElem? (i := 495) (by decide +kernel), List.mem_of_getElem? (i := 496) (by decide +kernel)⟩
theorem lw_p12 : lw_okq (⟨"PreparedPlans", "checkLength", "(I)V"⟩, 7) := ⟨⟨by decide +kernel, by decide +kernel⟩, List.mem_of_getElem? (i := 33) (by decide +kernel), List.mem_of_getElem? (i := 540) (by decide +kernel), List.mem_of_getElem? (i := 541) (by decide +kernel)⟩
theorem lw_p13 : lw_okq (⟨"PreparedPlans$Tokens", "addWord", "([BII)I"⟩, 8) := ⟨⟨by decide +kernel, by decide +kernel⟩, List.mem_of_getElem? (i := 41) (by decide +kernel), List.mem_of_getElem? (i := 552) (by decide +kernel), List.mem_of_getElem? (i := 553) (by decide +kernel)⟩
theorem lw_p14 : lw_okq (⟨"PreparedPlans$Tokens", "add", "(IIJ)V"⟩, 8) := ⟨⟨by decide +kernel, by decide +kernel⟩, List.mem_of_getElem? (i := 41) (by decide +kernel), List.mem_of_getElem? (i := 617) (by decide +kernel), List.mem_of_getElem? (i := 618) (by decide +kernel)⟩
theorem lw_p15 : lw_okq (⟨"PreparedPlans$Tokens", "addNumber", "([BII)I"⟩, 8) := ⟨⟨by decide +kernel, by decide +kernel⟩, List.mem_of_getElem? (i := 41) (by decide +kernel), List.mem_of_getElem? (i := 624) (by decide +kernel), List.mem_of_getElem? (i := 625) (by decide +kernel)⟩
def lw_privs_1 : List (MethodName × Nat) := [(⟨"PreparedPlans", "appendWord", "(I)V"⟩, 7), (⟨"PreparedPlans", "spareCopy", "()LPreparedPlans$Data;"⟩, 7), (⟨"PreparedPlans", "spareSlot", "()I"⟩, 7), (⟨"PreparedPlans", "current", "()LPreparedPlans$Data;"⟩, 7), (⟨"PreparedPlans$Data", "takeStatisticsOf", "(I)V"⟩, 7), (⟨"PreparedPlans$Data", "isFirst", "(II)Z"⟩, 7), (⟨"PreparedPlans", "takeSpare", "()V"⟩, 7), (⟨"java/lang/Throwable", "fillInStackTrace", "(I)Ljava/lang/Throwable;"⟩, 6), (⟨"PreparedPlans", "checkColumn", "(I)V"⟩, 7), (⟨"PreparedPlans", "checkRow", "(I)V"⟩, 7), (⟨"PreparedPlans", "addStatement", "(JI)J"⟩, 7), (⟨"PreparedPlans", "checkStatement", "(I)V"⟩, 7), (⟨"PreparedPlans", "checkLength", "(I)V"⟩, 7), (⟨"PreparedPlans$Tokens", "addWord", "([BII)I"⟩, 8), (⟨"PreparedPlans$Tokens", "add", "(IIJ)V"⟩, 8), (⟨"PreparedPlans$Tokens", "addNumber", "([BII)I"⟩, 8)]
theorem lw_r1 : ∀ q ∈ lw_privs_1, lw_okq q := List.forall_mem_cons.mpr ⟨lw_p0, List.forall_mem_cons.mpr ⟨lw_p1, List.forall_mem_cons.mpr ⟨lw_p2, List.forall_mem_cons.mpr ⟨lw_p3, List.forall_mem_cons.mpr ⟨lw_p4, List.forall_mem_cons.mpr ⟨lw_p5, List.forall_mem_cons.mpr ⟨lw_p6, List.forall_mem_cons.mpr ⟨lw_p7, List.forall_mem_cons.mpr ⟨lw_p8, List.forall_mem_cons.mpr ⟨lw_p9, List.forall_mem_cons.mpr ⟨lw_p10, List.forall_mem_cons.mpr ⟨lw_p11, List.forall_mem_cons.mpr ⟨lw_p12, List.forall_mem_cons.mpr ⟨lw_p13, List.forall_mem_cons.mpr ⟨lw_p14, List.forall_mem_cons.mpr ⟨lw_p15, fun _ h => absurd h List.not_mem_nil⟩⟩⟩⟩⟩⟩⟩⟩⟩⟩⟩⟩⟩⟩⟩⟩
theorem lw_p16 : lw_okq (⟨"PreparedPlans$SetupReader", "expectWord", "(Ljava/lang/String;)V"⟩, 6) := ⟨⟨by decide +kernel, by decide +kernel⟩, List.mem_of_getElem? (i := 629) (by decide +kernel), List.mem_of_getElem? (i := 675) (by decide +kernel), List.mem_of_getElem? (i := 676) (by decide +kernel)⟩
theorem lw_p17 : lw_okq (⟨"PreparedPlans$SetupReader", "fail", "(II)V"⟩, 6) := ⟨⟨by decide +kernel, by decide +kernel⟩, List.mem_of_getElem? (i := 629) (by decide +kernel), List.mem_of_getElem? (i := 683) (by decide +kernel), List.mem_of_getElem? (i := 684) (by decide +kernel)⟩
theorem lw_p18 : lw_okq (⟨"PreparedPlans$SetupReader", "expectByte", "(C)V"⟩, 6) := ⟨⟨by decide +kernel, by decide +kernel⟩, List.mem_of_getElem? (i := 629) (by decide +kernel), List.mem_of_getElem? (i := 687) (by decide +kernel), List.mem_of_getElem? (i := 688) (by decide +kernel)⟩
theorem lw_p19 : lw_okq (⟨"PreparedPlans$SetupReader", "readColumn", "()V"⟩, 6) := ⟨⟨by decide +kernel, by decide +kernel⟩, List.mem_of_getElem? (i := 629) (by decide +kernel), List.mem_of_getElem? (i := 692) (by decide +kernel), List.mem_of_getElem? (i := 693) (by decide +kernel)⟩
theorem lw_p20 : lw_okq (⟨"PreparedPlans$SetupReader", "takeName", "()J"⟩, 6) := ⟨⟨by decide +kernel, by decide +kernel⟩, List.mem_of_getElem? (i := 629) (by decide +kernel), List.mem_of_getElem? (i := 696) (by decide +kernel), List.mem_of_getElem? (i := 697) (by decide +kernel)⟩
theorem lw_p21 : lw_okq (⟨"PreparedPlans$SetupReader", "takeType", "()I"⟩, 6) := ⟨⟨by decide +kernel, by decide +kernel⟩, List.mem_of_getElem? (i := 629) (by decide +kernel), List.mem_of_getElem? (i := 704) (by decide +kernel), List.mem_of_getElem? (i := 705) (by decide +kernel)⟩
theorem lw_p22 : lw_okq (⟨"PreparedPlans$SetupReader", "readIndex", "()V"⟩, 6) := ⟨⟨by decide +kernel, by decide +kernel⟩, List.mem_of_getElem? (i := 629) (by decide +kernel), List.mem_of_getElem? (i := 716) (by decide +kernel), List.mem_of_getElem? (i := 717) (by decide +kernel)⟩
theorem lw_p23 : lw_okq (⟨"PreparedPlans$SetupReader", "takeColumn", "()I"⟩, 6) := ⟨⟨by decide +kernel, by decide +kernel⟩, List.mem_of_getElem? (i := 629) (by decide +kernel), List.mem_of_getElem? (i := 720) (by decide +kernel), List.mem_of_getElem? (i := 721) (by decide +kernel)⟩
theorem lw_p24 : lw_okq (⟨"PreparedPlans$SetupReader", "readRow", "()V"⟩, 6) := ⟨⟨by decide +kernel, by decide +kernel⟩, List.mem_of_getElem? (i := 629) (by decide +kernel), List.mem_of_getElem? (i := 725) (by decide +kernel), List.mem_of_getElem? (i := 726) (by decide +kernel)⟩
theorem lw_p25 : lw_okq (⟨"PreparedPlans$SetupReader", "takeNumber", "(I)I"⟩, 6) := ⟨⟨by decide +kernel, by decide +kernel⟩, List.mem_of_getElem? (i := 629) (by decide +kernel), List.mem_of_getElem? (i := 733) (by decide +kernel), List.mem_of_getElem? (i := 734) (by decide +kernel)⟩
theorem lw_p26 : lw_okq (⟨"PreparedPlans$SetupReader", "readPrepare", "()V"⟩, 6) := ⟨⟨by decide +kernel, by decide +kernel⟩, List.mem_of_getElem? (i := 629) (by decide +kernel), List.mem_of_getElem? (i := 742) (by decide +kernel), List.mem_of_getElem? (i := 743) (by decide +kernel)⟩
theorem lw_p27 : lw_okq (⟨"PreparedPlans$SetupReader", "readCondition", "(I)LPreparedPlans$Condition;"⟩, 6) := ⟨⟨by decide +kernel, by decide +kernel⟩, List.mem_of_getElem? (i := 629) (by decide +kernel), List.mem_of_getElem? (i := 756) (by decide +kernel), List.mem_of_getElem? (i := 757) (by decide +kernel)⟩
theorem lw_p28 : lw_okq (⟨"java/util/ArrayList", "add", "(Ljava/lang/Object;[Ljava/lang/Object;I)V"⟩, 3) := ⟨⟨by decide +kernel, by decide +kernel⟩, List.mem_of_getElem? (i := 87) (by decide +kernel), List.mem_of_getElem? (i := 783) (by decide +kernel), List.mem_of_getElem? (i := 784) (by decide +kernel)⟩
theorem lw_p29 : lw_okq (⟨"java/util/ArrayList", "grow", "()[Ljava/lang/Object;"⟩, 3) := ⟨⟨by decide +kernel, by decide +kernel⟩, List.mem_of_getElem? (i := 87) (by decide +kernel), List.mem_of_getElem? (i := 787) (by decide +kernel), List.mem_of_getElem? (i := 788) (by decide +kernel)⟩
theorem lw_p30 : lw_okq (⟨"java/util/ArrayList", "grow", "(I)[Ljava/lang/Object;"⟩, 3) := ⟨⟨by decide +kernel, by decide +kernel⟩, List.mem_of_getElem? (i := 87) (by decide +kernel), List.mem_of_getElem? (i := 791) (by decide +kernel), List.mem_of_getElem? (i := 792) (by decide +kernel)⟩
theorem lw_p31 : lw_okq (⟨"PreparedPlans$SetupReader", "readFactor", "(I)LPreparedPlans$Condition;"⟩, 6) := ⟨⟨by decide +kernel, by decide +kernel⟩, List.mem_of_getElem? (i := 629) (by decide +kernel), List.mem_of_getElem? (i := 835) (by decide +kernel), List.mem_of_getElem? (i := 836) (by decide +kernel)⟩
def lw_privs_2 : List (MethodName × Nat) := [(⟨"PreparedPlans$SetupReader", "expectWord", "(Ljava/lang/String;)V"⟩, 6), (⟨"PreparedPlans$SetupReader", "fail", "(II)V"⟩, 6), (⟨"PreparedPlans$SetupReader", "expectByte", "(C)V"⟩, 6), (⟨"PreparedPlans$SetupReader", "readColumn", "()V"⟩, 6), (⟨"PreparedPlans$SetupReader", "takeName", "()J"⟩, 6), (⟨"PreparedPlans$SetupReader", "takeType", "()I"⟩, 6), (⟨"PreparedPlans$SetupReader", "readIndex", "()V"⟩, 6), (⟨"PreparedPlans$SetupReader", "takeColumn", "()I"⟩, 6), (⟨"PreparedPlans$SetupReader", "readRow", "()V"⟩, 6), (⟨"PreparedPlans$SetupReader", "takeNumber", "(I)I"⟩, 6), (⟨"PreparedPlans$SetupReader", "readPrepare", "()V"⟩, 6), (⟨"PreparedPlans$SetupReader", "readCondition", "(I)LPreparedPlans$Condition;"⟩, 6), (⟨"java/util/ArrayList", "add", "(Ljava/lang/Object;[Ljava/lang/Object;I)V"⟩, 3), (⟨"java/util/ArrayList", "grow", "()[Ljava/lang/Object;"⟩, 3), (⟨"java/util/ArrayList", "grow", "(I)[Ljava/lang/Object;"⟩, 3), (⟨"PreparedPlans$SetupReader", "readFactor", "(I)LPreparedPlans$Condition;"⟩, 6)]
theorem lw_r2 : ∀ q ∈ lw_privs_2, lw_okq q := List.forall_mem_cons.mpr ⟨lw_p16, List.forall_mem_cons.mpr ⟨lw_p17, List.forall_mem_cons.mpr ⟨lw_p18, List.forall_mem_cons.mpr ⟨lw_p19, List.forall_mem_cons.mpr ⟨lw_p20, List.forall_mem_cons.mpr ⟨lw_p21, List.forall_mem_cons.mpr ⟨lw_p22, List.forall_mem_cons.mpr ⟨lw_p23, List.forall_mem_cons.mpr ⟨lw_p24, List.forall_mem_cons.mpr ⟨lw_p25, List.forall_mem_cons.mpr ⟨lw_p26, List.forall_mem_cons.mpr ⟨lw_p27, List.forall_mem_cons.mpr ⟨lw_p28, List.forall_mem_cons.mpr ⟨lw_p29, List.forall_mem_cons.mpr ⟨lw_p30, List.forall_mem_cons.mpr ⟨lw_p31, fun _ h => absurd h List.not_mem_nil⟩⟩⟩⟩⟩⟩⟩⟩⟩⟩⟩⟩⟩⟩⟩⟩
theorem lw_p32 : lw_okq (⟨"PreparedPlans$SetupReader", "readNested", "(I)LPreparedPlans$Condition;"⟩, 6) := ⟨⟨by decide +kernel, by decide +kernel⟩, List.mem_of_getElem? (i := 629) (by decide +kernel), List.mem_of_getElem? (i := 839) (by decide +kernel), List.mem_of_getElem? (i := 840) (by decide +kernel)⟩
theorem lw_p33 : lw_okq (⟨"PreparedPlans$SetupReader", "takeSign", "()C"⟩, 6) := ⟨⟨by decide +kernel, by decide +kernel⟩, List.mem_of_getElem? (i := 629) (by decide +kernel), List.mem_of_getElem? (i := 843) (by decide +kernel), List.mem_of_getElem? (i := 844) (by decide +kernel)⟩
theorem lw_p34 : lw_okq (⟨"PreparedPlans$SetupReader", "takeHole", "(I)I"⟩, 6) := ⟨⟨by decide +kernel, by decide +kernel⟩, List.mem_of_getElem? (i := 629) (by decide +kernel), List.mem_of_getElem? (i := 869) (by decide +kernel), List.mem_of_getElem? (i := 870) (by decide +kernel)⟩
theorem lw_p35 : lw_okq (⟨"PreparedPlans$SetupReader", "readCost", "()V"⟩, 6) := ⟨⟨by decide +kernel, by decide +kernel⟩, List.mem_of_getElem? (i := 629) (by decide +kernel), List.mem_of_getElem? (i := 912) (by decide +kernel), List.mem_of_getElem? (i := 913) (by decide +kernel)⟩
theorem lw_p36 : lw_okq (⟨"PreparedPlans$SetupReader", "readTries", "()V"⟩, 6) := ⟨⟨by decide +kernel, by decide +kernel⟩, List.mem_of_getElem? (i := 629) (by decide +kernel), List.mem_of_getElem? (i := 917) (by decide +kernel), List.mem_of_getElem? (i := 918) (by decide +kernel)⟩
theorem lw_p37 : lw_okq (⟨"PreparedPlans", "checkPlan", "(I)V"⟩, 7) := ⟨⟨by decide +kernel, by decide +kernel⟩, List.mem_of_getElem? (i := 33) (by decide +kernel), List.mem_of_getElem? (i := 968) (by decide +kernel), List.mem_of_getElem? (i := 969) (by decide +kernel)⟩
theorem lw_p38 : lw_okq (⟨"PreparedPlans$Data", "chosenFor", "(II[I)LPreparedPlans$Comparison;"⟩, 7) := ⟨⟨by decide +kernel, by decide +kernel⟩, List.mem_of_getElem? (i := 155) (by decide +kernel), List.mem_of_getElem? (i := 979) (by decide +kernel), List.mem_of_getElem? (i := 980) (by decide +kernel)⟩
theorem lw_p39 : lw_okq (⟨"PreparedPlans$Statistics", "estimateEqual", "(II)I"⟩, 4) := ⟨⟨by decide +kernel, by decide +kernel⟩, List.mem_of_getElem? (i := 161) (by decide +kernel), List.mem_of_getElem? (i := 995) (by decide +kernel), List.mem_of_getElem? (i := 996) (by decide +kernel)⟩
theorem lw_p40 : lw_okq (⟨"PreparedPlans", "checkedValues", "(IIIII)[I"⟩, 7) := ⟨⟨by decide +kernel, by decide +kernel⟩, List.mem_of_getElem? (i := 33) (by decide +kernel), List.mem_of_getElem? (i := 1008) (by decide +kernel), List.mem_of_getElem? (i := 1009) (by decide +kernel)⟩
theorem lw_p41 : lw_okq (⟨"PreparedPlans$Comparison", "holds", "(II)Z"⟩, 4) := ⟨⟨by decide +kernel, by decide +kernel⟩, List.mem_of_getElem? (i := 847) (by decide +kernel), List.mem_of_getElem? (i := 1070) (by decide +kernel), List.mem_of_getElem? (i := 1071) (by decide +kernel)⟩
theorem lw_p42 : lw_okq (⟨"PreparedPlansModel", "plain", "()V"⟩, 20) := ⟨⟨by decide +kernel, by decide +kernel⟩, List.mem_of_getElem? (i := 1153) (by decide +kernel), List.mem_of_getElem? (i := 1159) (by decide +kernel), List.mem_of_getElem? (i := 1160) (by decide +kernel)⟩
theorem lw_p43 : lw_okq (⟨"PreparedPlansModel", "put", "(II)V"⟩, 20) := ⟨⟨by decide +kernel, by decide +kernel⟩, List.mem_of_getElem? (i := 1153) (by decide +kernel), List.mem_of_getElem? (i := 1163) (by decide +kernel), List.mem_of_getElem? (i := 1164) (by decide +kernel)⟩
theorem lw_p44 : lw_okq (⟨"PreparedPlansModel", "right", "(ZI)Z"⟩, 20) := ⟨⟨by decide +kernel, by decide +kernel⟩, List.mem_of_getElem? (i := 1153) (by decide +kernel), List.mem_of_getElem? (i := 1243) (by decide +kernel), List.mem_of_getElem? (i := 1244) (by decide +kernel)⟩
theorem lw_p45 : lw_okq (⟨"PreparedPlansModel", "texts", "()V"⟩, 20) := ⟨⟨by decide +kernel, by decide +kernel⟩, List.mem_of_getElem? (i := 1153) (by decide +kernel), List.mem_of_getElem? (i := 1247) (by decide +kernel), List.mem_of_getElem? (i := 1248) (by decide +kernel)⟩
theorem lw_p46 : lw_okq (⟨"PreparedPlansModel", "takes", "(Ljava/lang/String;)Z"⟩, 20) := ⟨⟨by decide +kernel, by decide +kernel⟩, List.mem_of_getElem? (i := 1153) (by decide +kernel), List.mem_of_getElem? (i := 1252) (by decide +kernel), List.mem_of_getElem? (i := 1253) (by decide +kernel)⟩
theorem lw_p47 : lw_okq (⟨"PreparedPlansModel", "isHere", "(Ljava/lang/String;)Z"⟩, 20) := ⟨⟨by decide +kernel, by decide +kernel⟩, List.mem_of_getElem? (i := 1153) (by decide +kernel), List.mem_of_getElem? (i := 1256) (by decide +kernel), List.mem_of_getElem? (i := 1257) (by decide +kernel)⟩
def lw_privs_3 : List (MethodName × Nat) := [(⟨"PreparedPlans$SetupReader", "readNested", "(I)LPreparedPlans$Condition;"⟩, 6), (⟨"PreparedPlans$SetupReader", "takeSign", "()C"⟩, 6), (⟨"PreparedPlans$SetupReader", "takeHole", "(I)I"⟩, 6), (⟨"PreparedPlans$SetupReader", "readCost", "()V"⟩, 6), (⟨"PreparedPlans$SetupReader", "readTries", "()V"⟩, 6), (⟨"PreparedPlans", "checkPlan", "(I)V"⟩, 7), (⟨"PreparedPlans$Data", "chosenFor", "(II[I)LPreparedPlans$Comparison;"⟩, 7), (⟨"PreparedPlans$Statistics", "estimateEqual", "(II)I"⟩, 4), (⟨"PreparedPlans", "checkedValues", "(IIIII)[I"⟩, 7), (⟨"PreparedPlans$Comparison", "holds", "(II)Z"⟩, 4), (⟨"PreparedPlansModel", "plain", "()V"⟩, 20), (⟨"PreparedPlansModel", "put", "(II)V"⟩, 20), (⟨"PreparedPlansModel", "right", "(ZI)Z"⟩, 20), (⟨"PreparedPlansModel", "texts", "()V"⟩, 20), (⟨"PreparedPlansModel", "takes", "(Ljava/lang/String;)Z"⟩, 20), (⟨"PreparedPlansModel", "isHere", "(Ljava/lang/String;)Z"⟩, 20)]
theorem lw_r3 : ∀ q ∈ lw_privs_3, lw_okq q := List.forall_mem_cons.mpr ⟨lw_p32, List.forall_mem_cons.mpr ⟨lw_p33, List.forall_mem_cons.mpr ⟨lw_p34, List.forall_mem_cons.mpr ⟨lw_p35, List.forall_mem_cons.mpr ⟨lw_p36, List.forall_mem_cons.mpr ⟨lw_p37, List.forall_mem_cons.mpr ⟨lw_p38, List.forall_mem_cons.mpr ⟨lw_p39, List.forall_mem_cons.mpr ⟨lw_p40, List.forall_mem_cons.mpr ⟨lw_p41, List.forall_mem_cons.mpr ⟨lw_p42, List.forall_mem_cons.mpr ⟨lw_p43, List.forall_mem_cons.mpr ⟨lw_p44, List.forall_mem_cons.mpr ⟨lw_p45, List.forall_mem_cons.mpr ⟨lw_p46, List.forall_mem_cons.mpr ⟨lw_p47, fun _ h => absurd h List.not_mem_nil⟩⟩⟩⟩⟩⟩⟩⟩⟩⟩⟩⟩⟩⟩⟩⟩
theorem lw_p48 : lw_okq (⟨"PreparedPlansModel", "wordEnd", "()I"⟩, 20) := ⟨⟨by decide +kernel, by decide +kernel⟩, List.mem_of_getElem? (i := 1153) (by decide +kernel), List.mem_of_getElem? (i := 1260) (by decide +kernel), List.mem_of_getElem? (i := 1261) (by decide +kernel)⟩
theorem lw_p49 : lw_okq (⟨"PreparedPlansModel", "sees", "()I"⟩, 20) := ⟨⟨by decide +kernel, by decide +kernel⟩, List.mem_of_getElem? (i := 1153) (by decide +kernel), List.mem_of_getElem? (i := 1264) (by decide +kernel), List.mem_of_getElem? (i := 1265) (by decide +kernel)⟩
theorem lw_p50 : lw_okq (⟨"PreparedPlansModel", "fails", "(II)V"⟩, 20) := ⟨⟨by decide +kernel, by decide +kernel⟩, List.mem_of_getElem? (i := 1153) (by decide +kernel), List.mem_of_getElem? (i := 1273) (by decide +kernel), List.mem_of_getElem? (i := 1274) (by decide +kernel)⟩
theorem lw_p51 : lw_okq (⟨"PreparedPlansModel", "wants", "(I)V"⟩, 20) := ⟨⟨by decide +kernel, by decide +kernel⟩, List.mem_of_getElem? (i := 1153) (by decide +kernel), List.mem_of_getElem? (i := 1277) (by decide +kernel), List.mem_of_getElem? (i := 1278) (by decide +kernel)⟩
theorem lw_p52 : lw_okq (⟨"PreparedPlansModel", "startOf", "(Ljava/lang/String;)I"⟩, 20) := ⟨⟨by decide +kernel, by decide +kernel⟩, List.mem_of_getElem? (i := 1153) (by decide +kernel), List.mem_of_getElem? (i := 1282) (by decide +kernel), List.mem_of_getElem? (i := 1283) (by decide +kernel)⟩
theorem lw_p53 : lw_okq (⟨"PreparedPlansModel", "columnLine", "(I)V"⟩, 20) := ⟨⟨by decide +kernel, by decide +kernel⟩, List.mem_of_getElem? (i := 1153) (by decide +kernel), List.mem_of_getElem? (i := 1286) (by decide +kernel), List.mem_of_getElem? (i := 1287) (by decide +kernel)⟩
theorem lw_p54 : lw_okq (⟨"PreparedPlansModel", "freshName", "(III)V"⟩, 20) := ⟨⟨by decide +kernel, by decide +kernel⟩, List.mem_of_getElem? (i := 1153) (by decide +kernel), List.mem_of_getElem? (i := 1290) (by decide +kernel), List.mem_of_getElem? (i := 1291) (by decide +kernel)⟩
theorem lw_p55 : lw_okq (⟨"PreparedPlansModel", "isName", "()Z"⟩, 20) := ⟨⟨by decide +kernel, by decide +kernel⟩, List.mem_of_getElem? (i := 1153) (by decide +kernel), List.mem_of_getElem? (i := 1294) (by decide +kernel), List.mem_of_getElem? (i := 1295) (by decide +kernel)⟩
theorem lw_p56 : lw_okq (⟨"PreparedPlansModel", "reach", "()V"⟩, 20) := ⟨⟨by decide +kernel, by decide +kernel⟩, List.mem_of_getElem? (i := 1153) (by decide +kernel), List.mem_of_getElem? (i := 1301) (by decide +kernel), List.mem_of_getElem? (i := 1302) (by decide +kernel)⟩
theorem lw_p57 : lw_okq (⟨"PreparedPlansModel", "seek", "(III)I"⟩, 20) := ⟨⟨by decide +kernel, by decide +kernel⟩, List.mem_of_getElem? (i := 1153) (by decide +kernel), List.mem_of_getElem? (i := 1305) (by decide +kernel), List.mem_of_getElem? (i := 1306) (by decide +kernel)⟩
theorem lw_p58 : lw_okq (⟨"PreparedPlansModel", "nameInto", "(I)V"⟩, 20) := ⟨⟨by decide +kernel, by decide +kernel⟩, List.mem_of_getElem? (i := 1153) (by decide +kernel), List.mem_of_getElem? (i := 1309) (by decide +kernel), List.mem_of_getElem? (i := 1310) (by decide +kernel)⟩
theorem lw_p59 : lw_okq (⟨"PreparedPlansModel", "indexLine", "()V"⟩, 20) := ⟨⟨by decide +kernel, by decide +kernel⟩, List.mem_of_getElem? (i := 1153) (by decide +kernel), List.mem_of_getElem? (i := 1320) (by decide +kernel), List.mem_of_getElem? (i := 1321) (by decide +kernel)⟩
theorem lw_p60 : lw_okq (⟨"PreparedPlansModel", "knownColumn", "()I"⟩, 20) := ⟨⟨by decide +kernel, by decide +kernel⟩, List.mem_of_getElem? (i := 1153) (by decide +kernel), List.mem_of_getElem? (i := 1324) (by decide +kernel), List.mem_of_getElem? (i := 1325) (by decide +kernel)⟩
theorem lw_p61 : lw_okq (⟨"PreparedPlansModel", "rowLine", "(I)V"⟩, 20) := ⟨⟨by decide +kernel, by decide +kernel⟩, List.mem_of_getElem? (i := 1153) (by decide +kernel), List.mem_of_getElem? (i := 1329) (by decide +kernel), List.mem_of_getElem? (i := 1330) (by decide +kernel)⟩
theorem lw_p62 : lw_okq (⟨"PreparedPlansModel", "reads", "(II)I"⟩, 20) := ⟨⟨by decide +kernel, by decide +kernel⟩, List.mem_of_getElem? (i := 1153) (by decide +kernel), List.mem_of_getElem? (i := 1339) (by decide +kernel), List.mem_of_getElem? (i := 1340) (by decide +kernel)⟩
theorem lw_p63 : lw_okq (⟨"PreparedPlansModel", "isDigit", "()Z"⟩, 20) := ⟨⟨by decide +kernel, by decide +kernel⟩, List.mem_of_getElem? (i := 1153) (by decide +kernel), List.mem_of_getElem? (i := 1343) (by decide +kernel), List.mem_of_getElem? (i := 1344) (by decide +kernel)⟩
def lw_privs_4 : List (MethodName × Nat) := [(⟨"PreparedPlansModel", "wordEnd", "()I"⟩, 20), (⟨"PreparedPlansModel", "sees", "()I"⟩, 20), (⟨"PreparedPlansModel", "fails", "(II)V"⟩, 20), (⟨"PreparedPlansModel", "wants", "(I)V"⟩, 20), (⟨"PreparedPlansModel", "startOf", "(Ljava/lang/String;)I"⟩, 20), (⟨"PreparedPlansModel", "columnLine", "(I)V"⟩, 20), (⟨"PreparedPlansModel", "freshName", "(III)V"⟩, 20), (⟨"PreparedPlansModel", "isName", "()Z"⟩, 20), (⟨"PreparedPlansModel", "reach", "()V"⟩, 20), (⟨"PreparedPlansModel", "seek", "(III)I"⟩, 20), (⟨"PreparedPlansModel", "nameInto", "(I)V"⟩, 20), (⟨"PreparedPlansModel", "indexLine", "()V"⟩, 20), (⟨"PreparedPlansModel", "knownColumn", "()I"⟩, 20), (⟨"PreparedPlansModel", "rowLine", "(I)V"⟩, 20), (⟨"PreparedPlansModel", "reads", "(II)I"⟩, 20), (⟨"PreparedPlansModel", "isDigit", "()Z"⟩, 20)]
theorem lw_r4 : ∀ q ∈ lw_privs_4, lw_okq q := List.forall_mem_cons.mpr ⟨lw_p48, List.forall_mem_cons.mpr ⟨lw_p49, List.forall_mem_cons.mpr ⟨lw_p50, List.forall_mem_cons.mpr ⟨lw_p51, List.forall_mem_cons.mpr ⟨lw_p52, List.forall_mem_cons.mpr ⟨lw_p53, List.forall_mem_cons.mpr ⟨lw_p54, List.forall_mem_cons.mpr ⟨lw_p55, List.forall_mem_cons.mpr ⟨lw_p56, List.forall_mem_cons.mpr ⟨lw_p57, List.forall_mem_cons.mpr ⟨lw_p58, List.forall_mem_cons.mpr ⟨lw_p59, List.forall_mem_cons.mpr ⟨lw_p60, List.forall_mem_cons.mpr ⟨lw_p61, List.forall_mem_cons.mpr ⟨lw_p62, List.forall_mem_cons.mpr ⟨lw_p63, fun _ h => absurd h List.not_mem_nil⟩⟩⟩⟩⟩⟩⟩⟩⟩⟩⟩⟩⟩⟩⟩⟩
theorem lw_p64 : lw_okq (⟨"PreparedPlansModel", "prepareLine", "(I)V"⟩, 20) := ⟨⟨by decide +kernel, by decide +kernel⟩, List.mem_of_getElem? (i := 1153) (by decide +kernel), List.mem_of_getElem? (i := 1350) (by decide +kernel), List.mem_of_getElem? (i := 1351) (by decide +kernel)⟩
theorem lw_p65 : lw_okq (⟨"PreparedPlansModel", "condition", "(Z)V"⟩, 20) := ⟨⟨by decide +kernel, by decide +kernel⟩, List.mem_of_getElem? (i := 1153) (by decide +kernel), List.mem_of_getElem? (i := 1357) (by decide +kernel), List.mem_of_getElem? (i := 1358) (by decide +kernel)⟩
theorem lw_p66 : lw_okq (⟨"PreparedPlansModel", "term", "(Z)V"⟩, 20) := ⟨⟨by decide +kernel, by decide +kernel⟩, List.mem_of_getElem? (i := 1153) (by decide +kernel), List.mem_of_getElem? (i := 1361) (by decide +kernel), List.mem_of_getElem? (i := 1362) (by decide +kernel)⟩
theorem lw_p67 : lw_okq (⟨"PreparedPlansModel", "factor", "(Z)V"⟩, 20) := ⟨⟨by decide +kernel, by decide +kernel⟩, List.mem_of_getElem? (i := 1153) (by decide +kernel), List.mem_of_getElem? (i := 1365) (by decide +kernel), List.mem_of_getElem? (i := 1366) (by decide +kernel)⟩
theorem lw_p68 : lw_okq (⟨"PreparedPlansModel", "deepens", "()Z"⟩, 20) := ⟨⟨by decide +kernel, by decide +kernel⟩, List.mem_of_getElem? (i := 1153) (by decide +kernel), List.mem_of_getElem? (i := 1369) (by decide +kernel), List.mem_of_getElem? (i := 1370) (by decide +kernel)⟩
theorem lw_p69 : lw_okq (⟨"PreparedPlansModel", "codes", "(II)I"⟩, 20) := ⟨⟨by decide +kernel, by decide +kernel⟩, List.mem_of_getElem? (i := 1153) (by decide +kernel), List.mem_of_getElem? (i := 1373) (by decide +kernel), List.mem_of_getElem? (i := 1374) (by decide +kernel)⟩
theorem lw_p70 : lw_okq (⟨"PreparedPlansModel", "comparison", "(Z)V"⟩, 20) := ⟨⟨by decide +kernel, by decide +kernel⟩, List.mem_of_getElem? (i := 1153) (by decide +kernel), List.mem_of_getElem? (i := 1380) (by decide +kernel), List.mem_of_getElem? (i := 1381) (by decide +kernel)⟩
theorem lw_p71 : lw_okq (⟨"PreparedPlansModel", "holeHere", "(I)I"⟩, 20) := ⟨⟨by decide +kernel, by decide +kernel⟩, List.mem_of_getElem? (i := 1153) (by decide +kernel), List.mem_of_getElem? (i := 1384) (by decide +kernel), List.mem_of_getElem? (i := 1385) (by decide +kernel)⟩
theorem lw_p72 : lw_okq (⟨"PreparedPlansModel", "columnHere", "(I)I"⟩, 20) := ⟨⟨by decide +kernel, by decide +kernel⟩, List.mem_of_getElem? (i := 1153) (by decide +kernel), List.mem_of_getElem? (i := 1388) (by decide +kernel), List.mem_of_getElem? (i := 1389) (by decide +kernel)⟩
theorem lw_p73 : lw_okq (⟨"PreparedPlansModel", "costLine", "()V"⟩, 20) := ⟨⟨by decide +kernel, by decide +kernel⟩, List.mem_of_getElem? (i := 1153) (by decide +kernel), List.mem_of_getElem? (i := 1393) (by decide +kernel), List.mem_of_getElem? (i := 1394) (by decide +kernel)⟩
theorem lw_p74 : lw_okq (⟨"PreparedPlansModel", "triesLine", "()V"⟩, 20) := ⟨⟨by decide +kernel, by decide +kernel⟩, List.mem_of_getElem? (i := 1153) (by decide +kernel), List.mem_of_getElem? (i := 1398) (by decide +kernel), List.mem_of_getElem? (i := 1399) (by decide +kernel)⟩
theorem lw_p75 : lw_okq (⟨"PreparedPlansModel", "change", "()V"⟩, 20) := ⟨⟨by decide +kernel, by decide +kernel⟩, List.mem_of_getElem? (i := 1153) (by decide +kernel), List.mem_of_getElem? (i := 1402) (by decide +kernel), List.mem_of_getElem? (i := 1403) (by decide +kernel)⟩
theorem lw_p76 : lw_okq (⟨"PreparedPlansModel", "looks", "()V"⟩, 20) := ⟨⟨by decide +kernel, by decide +kernel⟩, List.mem_of_getElem? (i := 1153) (by decide +kernel), List.mem_of_getElem? (i := 1406) (by decide +kernel), List.mem_of_getElem? (i := 1407) (by decide +kernel)⟩
theorem lw_p77 : lw_okq (⟨"PreparedPlansModel", "get", "(I)I"⟩, 20) := ⟨⟨by decide +kernel, by decide +kernel⟩, List.mem_of_getElem? (i := 1153) (by decide +kernel), List.mem_of_getElem? (i := 1410) (by decide +kernel), List.mem_of_getElem? (i := 1411) (by decide +kernel)⟩
theorem lw_p78 : lw_okq (⟨"PreparedPlansModel", "unlike", "(I)I"⟩, 20) := ⟨⟨by decide +kernel, by decide +kernel⟩, List.mem_of_getElem? (i := 1153) (by decide +kernel), List.mem_of_getElem? (i := 1414) (by decide +kernel), List.mem_of_getElem? (i := 1415) (by decide +kernel)⟩
theorem lw_p79 : lw_okq (⟨"PreparedPlansModel", "extreme", "(IZ)I"⟩, 20) := ⟨⟨by decide +kernel, by decide +kernel⟩, List.mem_of_getElem? (i := 1153) (by decide +kernel), List.mem_of_getElem? (i := 1418) (by decide +kernel), List.mem_of_getElem? (i := 1419) (by decide +kernel)⟩
def lw_privs_5 : List (MethodName × Nat) := [(⟨"PreparedPlansModel", "prepareLine", "(I)V"⟩, 20), (⟨"PreparedPlansModel", "condition", "(Z)V"⟩, 20), (⟨"PreparedPlansModel", "term", "(Z)V"⟩, 20), (⟨"PreparedPlansModel", "factor", "(Z)V"⟩, 20), (⟨"PreparedPlansModel", "deepens", "()Z"⟩, 20), (⟨"PreparedPlansModel", "codes", "(II)I"⟩, 20), (⟨"PreparedPlansModel", "comparison", "(Z)V"⟩, 20), (⟨"PreparedPlansModel", "holeHere", "(I)I"⟩, 20), (⟨"PreparedPlansModel", "columnHere", "(I)I"⟩, 20), (⟨"PreparedPlansModel", "costLine", "()V"⟩, 20), (⟨"PreparedPlansModel", "triesLine", "()V"⟩, 20), (⟨"PreparedPlansModel", "change", "()V"⟩, 20), (⟨"PreparedPlansModel", "looks", "()V"⟩, 20), (⟨"PreparedPlansModel", "get", "(I)I"⟩, 20), (⟨"PreparedPlansModel", "unlike", "(I)I"⟩, 20), (⟨"PreparedPlansModel", "extreme", "(IZ)I"⟩, 20)]
theorem lw_r5 : ∀ q ∈ lw_privs_5, lw_okq q := List.forall_mem_cons.mpr ⟨lw_p64, List.forall_mem_cons.mpr ⟨lw_p65, List.forall_mem_cons.mpr ⟨lw_p66, List.forall_mem_cons.mpr ⟨lw_p67, List.forall_mem_cons.mpr ⟨lw_p68, List.forall_mem_cons.mpr ⟨lw_p69, List.forall_mem_cons.mpr ⟨lw_p70, List.forall_mem_cons.mpr ⟨lw_p71, List.forall_mem_cons.mpr ⟨lw_p72, List.forall_mem_cons.mpr ⟨lw_p73, List.forall_mem_cons.mpr ⟨lw_p74, List.forall_mem_cons.mpr ⟨lw_p75, List.forall_mem_cons.mpr ⟨lw_p76, List.forall_mem_cons.mpr ⟨lw_p77, List.forall_mem_cons.mpr ⟨lw_p78, List.forall_mem_cons.mpr ⟨lw_p79, fun _ h => absurd h List.not_mem_nil⟩⟩⟩⟩⟩⟩⟩⟩⟩⟩⟩⟩⟩⟩⟩⟩
theorem lw_p80 : lw_okq (⟨"PreparedPlansModel", "noColumn", "(I)Z"⟩, 20) := ⟨⟨by decide +kernel, by decide +kernel⟩, List.mem_of_getElem? (i := 1153) (by decide +kernel), List.mem_of_getElem? (i := 1436) (by decide +kernel), List.mem_of_getElem? (i := 1437) (by decide +kernel)⟩
theorem lw_p81 : lw_okq (⟨"PreparedPlansModel", "ofColumn", "(II)I"⟩, 20) := ⟨⟨by decide +kernel, by decide +kernel⟩, List.mem_of_getElem? (i := 1153) (by decide +kernel), List.mem_of_getElem? (i := 1441) (by decide +kernel), List.mem_of_getElem? (i := 1442) (by decide +kernel)⟩
theorem lw_p82 : lw_okq (⟨"PreparedPlansModel", "nameOf", "(I)I"⟩, 20) := ⟨⟨by decide +kernel, by decide +kernel⟩, List.mem_of_getElem? (i := 1153) (by decide +kernel), List.mem_of_getElem? (i := 1453) (by decide +kernel), List.mem_of_getElem? (i := 1454) (by decide +kernel)⟩
theorem lw_p83 : lw_okq (⟨"PreparedPlansModel", "ofStatement", "(II)I"⟩, 20) := ⟨⟨by decide +kernel, by decide +kernel⟩, List.mem_of_getElem? (i := 1153) (by decide +kernel), List.mem_of_getElem? (i := 1457) (by decide +kernel), List.mem_of_getElem? (i := 1458) (by decide +kernel)⟩
theorem lw_p84 : lw_okq (⟨"PreparedPlansModel", "noStatement", "(I)Z"⟩, 20) := ⟨⟨by decide +kernel, by decide +kernel⟩, List.mem_of_getElem? (i := 1153) (by decide +kernel), List.mem_of_getElem? (i := 1465) (by decide +kernel), List.mem_of_getElem? (i := 1466) (by decide +kernel)⟩
theorem lw_p85 : lw_okq (⟨"PreparedPlansModel", "toldOf", "(II)I"⟩, 20) := ⟨⟨by decide +kernel, by decide +kernel⟩, List.mem_of_getElem? (i := 1153) (by decide +kernel), List.mem_of_getElem? (i := 1475) (by decide +kernel), List.mem_of_getElem? (i := 1476) (by decide +kernel)⟩
theorem lw_p86 : lw_okq (⟨"PreparedPlansModel", "stateOf", "(I)I"⟩, 20) := ⟨⟨by decide +kernel, by decide +kernel⟩, List.mem_of_getElem? (i := 1153) (by decide +kernel), List.mem_of_getElem? (i := 1479) (by decide +kernel), List.mem_of_getElem? (i := 1480) (by decide +kernel)⟩
theorem lw_p87 : lw_okq (⟨"PreparedPlansModel", "isPlan", "(I)Z"⟩, 20) := ⟨⟨by decide +kernel, by decide +kernel⟩, List.mem_of_getElem? (i := 1153) (by decide +kernel), List.mem_of_getElem? (i := 1495) (by decide +kernel), List.mem_of_getElem? (i := 1496) (by decide +kernel)⟩
theorem lw_p88 : lw_okq (⟨"PreparedPlansModel", "costOf", "(IIZ)I"⟩, 20) := ⟨⟨by decide +kernel, by decide +kernel⟩, List.mem_of_getElem? (i := 1153) (by decide +kernel), List.mem_of_getElem? (i := 1500) (by decide +kernel), List.mem_of_getElem? (i := 1501) (by decide +kernel)⟩
theorem lw_p89 : lw_okq (⟨"PreparedPlansModel", "chosen", "(IIZ)I"⟩, 20) := ⟨⟨by decide +kernel, by decide +kernel⟩, List.mem_of_getElem? (i := 1153) (by decide +kernel), List.mem_of_getElem? (i := 1504) (by decide +kernel), List.mem_of_getElem? (i := 1505) (by decide +kernel)⟩
theorem lw_p90 : lw_okq (⟨"PreparedPlansModel", "ofCode", "(II)I"⟩, 20) := ⟨⟨by decide +kernel, by decide +kernel⟩, List.mem_of_getElem? (i := 1153) (by decide +kernel), List.mem_of_getElem? (i := 1508) (by decide +kernel), List.mem_of_getElem? (i := 1509) (by decide +kernel)⟩
theorem lw_p91 : lw_okq (⟨"PreparedPlansModel", "estimate", "(IZ)I"⟩, 20) := ⟨⟨by decide +kernel, by decide +kernel⟩, List.mem_of_getElem? (i := 1153) (by decide +kernel), List.mem_of_getElem? (i := 1512) (by decide +kernel), List.mem_of_getElem? (i := 1513) (by decide +kernel)⟩
theorem lw_p92 : lw_okq (⟨"PreparedPlansModel", "seenEstimate", "(II)I"⟩, 20) := ⟨⟨by decide +kernel, by decide +kernel⟩, List.mem_of_getElem? (i := 1153) (by decide +kernel), List.mem_of_getElem? (i := 1516) (by decide +kernel), List.mem_of_getElem? (i := 1517) (by decide +kernel)⟩
theorem lw_p93 : lw_okq (⟨"PreparedPlansModel", "takesValues", "(IIIII)Z"⟩, 20) := ⟨⟨by decide +kernel, by decide +kernel⟩, List.mem_of_getElem? (i := 1153) (by decide +kernel), List.mem_of_getElem? (i := 1527) (by decide +kernel), List.mem_of_getElem? (i := 1528) (by decide +kernel)⟩
theorem lw_p94 : lw_okq (⟨"PreparedPlansModel", "isValue", "(III)Z"⟩, 20) := ⟨⟨by decide +kernel, by decide +kernel⟩, List.mem_of_getElem? (i := 1153) (by decide +kernel), List.mem_of_getElem? (i := 1531) (by decide +kernel), List.mem_of_getElem? (i := 1532) (by decide +kernel)⟩
theorem lw_p95 : lw_okq (⟨"PreparedPlansModel", "bestPlan", "(IZ)I"⟩, 20) := ⟨⟨by decide +kernel, by decide +kernel⟩, List.mem_of_getElem? (i := 1153) (by decide +kernel), List.mem_of_getElem? (i := 1535) (by decide +kernel), List.mem_of_getElem? (i := 1536) (by decide +kernel)⟩
def lw_privs_6 : List (MethodName × Nat) := [(⟨"PreparedPlansModel", "noColumn", "(I)Z"⟩, 20), (⟨"PreparedPlansModel", "ofColumn", "(II)I"⟩, 20), (⟨"PreparedPlansModel", "nameOf", "(I)I"⟩, 20), (⟨"PreparedPlansModel", "ofStatement", "(II)I"⟩, 20), (⟨"PreparedPlansModel", "noStatement", "(I)Z"⟩, 20), (⟨"PreparedPlansModel", "toldOf", "(II)I"⟩, 20), (⟨"PreparedPlansModel", "stateOf", "(I)I"⟩, 20), (⟨"PreparedPlansModel", "isPlan", "(I)Z"⟩, 20), (⟨"PreparedPlansModel", "costOf", "(IIZ)I"⟩, 20), (⟨"PreparedPlansModel", "chosen", "(IIZ)I"⟩, 20), (⟨"PreparedPlansModel", "ofCode", "(II)I"⟩, 20), (⟨"PreparedPlansModel", "estimate", "(IZ)I"⟩, 20), (⟨"PreparedPlansModel", "seenEstimate", "(II)I"⟩, 20), (⟨"PreparedPlansModel", "takesValues", "(IIIII)Z"⟩, 20), (⟨"PreparedPlansModel", "isValue", "(III)Z"⟩, 20), (⟨"PreparedPlansModel", "bestPlan", "(IZ)I"⟩, 20)]
theorem lw_r6 : ∀ q ∈ lw_privs_6, lw_okq q := List.forall_mem_cons.mpr ⟨lw_p80, List.forall_mem_cons.mpr ⟨lw_p81, List.forall_mem_cons.mpr ⟨lw_p82, List.forall_mem_cons.mpr ⟨lw_p83, List.forall_mem_cons.mpr ⟨lw_p84, List.forall_mem_cons.mpr ⟨lw_p85, List.forall_mem_cons.mpr ⟨lw_p86, List.forall_mem_cons.mpr ⟨lw_p87, List.forall_mem_cons.mpr ⟨lw_p88, List.forall_mem_cons.mpr ⟨lw_p89, List.forall_mem_cons.mpr ⟨lw_p90, List.forall_mem_cons.mpr ⟨lw_p91, List.forall_mem_cons.mpr ⟨lw_p92, List.forall_mem_cons.mpr ⟨lw_p93, List.forall_mem_cons.mpr ⟨lw_p94, List.forall_mem_cons.mpr ⟨lw_p95, fun _ h => absurd h List.not_mem_nil⟩⟩⟩⟩⟩⟩⟩⟩⟩⟩⟩⟩⟩⟩⟩⟩
theorem lw_p96 : lw_okq (⟨"PreparedPlansModel", "isFresh", "(I)Z"⟩, 20) := ⟨⟨by decide +kernel, by decide +kernel⟩, List.mem_of_getElem? (i := 1153) (by decide +kernel), List.mem_of_getElem? (i := 1547) (by decide +kernel), List.mem_of_getElem? (i := 1548) (by decide +kernel)⟩
theorem lw_p97 : lw_okq (⟨"PreparedPlansModel", "isGeneric", "(II)Z"⟩, 20) := ⟨⟨by decide +kernel, by decide +kernel⟩, List.mem_of_getElem? (i := 1153) (by decide +kernel), List.mem_of_getElem? (i := 1551) (by decide +kernel), List.mem_of_getElem? (i := 1552) (by decide +kernel)⟩
theorem lw_p98 : lw_okq (⟨"PreparedPlansModel", "finds", "(II)Z"⟩, 20) := ⟨⟨by decide +kernel, by decide +kernel⟩, List.mem_of_getElem? (i := 1153) (by decide +kernel), List.mem_of_getElem? (i := 1559) (by decide +kernel), List.mem_of_getElem? (i := 1560) (by decide +kernel)⟩
theorem lw_p99 : lw_okq (⟨"PreparedPlansModel", "isTrue", "(II)Z"⟩, 20) := ⟨⟨by decide +kernel, by decide +kernel⟩, List.mem_of_getElem? (i := 1153) (by decide +kernel), List.mem_of_getElem? (i := 1563) (by decide +kernel), List.mem_of_getElem? (i := 1564) (by decide +kernel)⟩
theorem lw_p100 : lw_okq (⟨"PreparedPlansModel", "makesGeneric", "(I)V"⟩, 20) := ⟨⟨by decide +kernel, by decide +kernel⟩, List.mem_of_getElem? (i := 1153) (by decide +kernel), List.mem_of_getElem? (i := 1571) (by decide +kernel), List.mem_of_getElem? (i := 1572) (by decide +kernel)⟩
theorem lw_p101 : lw_okq (⟨"PreparedPlansModel", "add", "(II)V"⟩, 20) := ⟨⟨by decide +kernel, by decide +kernel⟩, List.mem_of_getElem? (i := 1153) (by decide +kernel), List.mem_of_getElem? (i := 1575) (by decide +kernel), List.mem_of_getElem? (i := 1576) (by decide +kernel)⟩
theorem lw_p102 : lw_okq (⟨"PreparedPlansModel", "touches", "(IIZ)V"⟩, 20) := ⟨⟨by decide +kernel, by decide +kernel⟩, List.mem_of_getElem? (i := 1153) (by decide +kernel), List.mem_of_getElem? (i := 1579) (by decide +kernel), List.mem_of_getElem? (i := 1580) (by decide +kernel)⟩
theorem lw_p103 : lw_okq (⟨"PreparedPlansModel", "learns", "(IIIZI)V"⟩, 20) := ⟨⟨by decide +kernel, by decide +kernel⟩, List.mem_of_getElem? (i := 1153) (by decide +kernel), List.mem_of_getElem? (i := 1583) (by decide +kernel), List.mem_of_getElem? (i := 1584) (by decide +kernel)⟩
theorem lw_p104 : lw_okq (⟨"PreparedPlansModel", "isCell", "(II)Z"⟩, 20) := ⟨⟨by decide +kernel, by decide +kernel⟩, List.mem_of_getElem? (i := 1153) (by decide +kernel), List.mem_of_getElem? (i := 1591) (by decide +kernel), List.mem_of_getElem? (i := 1592) (by decide +kernel)⟩
theorem lw_p105 : lw_okq (⟨"PreparedPlansModel", "adds", "(J)V"⟩, 20) := ⟨⟨by decide +kernel, by decide +kernel⟩, List.mem_of_getElem? (i := 1153) (by decide +kernel), List.mem_of_getElem? (i := 1615) (by decide +kernel), List.mem_of_getElem? (i := 1616) (by decide +kernel)⟩
theorem lw_p106 : lw_okq (⟨"PreparedPlansModel", "addsStatement", "(I)V"⟩, 20) := ⟨⟨by decide +kernel, by decide +kernel⟩, List.mem_of_getElem? (i := 1153) (by decide +kernel), List.mem_of_getElem? (i := 1620) (by decide +kernel), List.mem_of_getElem? (i := 1621) (by decide +kernel)⟩
def lw_privs_7 : List (MethodName × Nat) := [(⟨"PreparedPlansModel", "isFresh", "(I)Z"⟩, 20), (⟨"PreparedPlansModel", "isGeneric", "(II)Z"⟩, 20), (⟨"PreparedPlansModel", "finds", "(II)Z"⟩, 20), (⟨"PreparedPlansModel", "isTrue", "(II)Z"⟩, 20), (⟨"PreparedPlansModel", "makesGeneric", "(I)V"⟩, 20), (⟨"PreparedPlansModel", "add", "(II)V"⟩, 20), (⟨"PreparedPlansModel", "touches", "(IIZ)V"⟩, 20), (⟨"PreparedPlansModel", "learns", "(IIIZI)V"⟩, 20), (⟨"PreparedPlansModel", "isCell", "(II)Z"⟩, 20), (⟨"PreparedPlansModel", "adds", "(J)V"⟩, 20), (⟨"PreparedPlansModel", "addsStatement", "(I)V"⟩, 20)]
theorem lw_r7 : ∀ q ∈ lw_privs_7, lw_okq q := List.forall_mem_cons.mpr ⟨lw_p96, List.forall_mem_cons.mpr ⟨lw_p97, List.forall_mem_cons.mpr ⟨lw_p98, List.forall_mem_cons.mpr ⟨lw_p99, List.forall_mem_cons.mpr ⟨lw_p100, List.forall_mem_cons.mpr ⟨lw_p101, List.forall_mem_cons.mpr ⟨lw_p102, List.forall_mem_cons.mpr ⟨lw_p103, List.forall_mem_cons.mpr ⟨lw_p104, List.forall_mem_cons.mpr ⟨lw_p105, List.forall_mem_cons.mpr ⟨lw_p106, fun _ h => absurd h List.not_mem_nil⟩⟩⟩⟩⟩⟩⟩⟩⟩⟩⟩
def lw_privs : List (MethodName × Nat) := lw_privs_1 ++ (lw_privs_2 ++ (lw_privs_3 ++ (lw_privs_4 ++ (lw_privs_5 ++ (lw_privs_6 ++ (lw_privs_7))))))
def lw_tbl : List Cond := k2_sels lw_privs ++ tables_1
theorem lw_privs_ok : ∀ q ∈ lw_privs, lw_okq q := by
  show ∀ q ∈ lw_privs_1 ++ (lw_privs_2 ++ (lw_privs_3 ++ (lw_privs_4 ++ (lw_privs_5 ++ (lw_privs_6 ++ (lw_privs_7)))))), lw_okq q
  exact List.forall_mem_append.mpr ⟨lw_r1, List.forall_mem_append.mpr ⟨lw_r2, List.forall_mem_append.mpr ⟨lw_r3, List.forall_mem_append.mpr ⟨lw_r4, List.forall_mem_append.mpr ⟨lw_r5, List.forall_mem_append.mpr ⟨lw_r6, lw_r7⟩⟩⟩⟩⟩⟩
-- ===== end of PART A; then your names; then what follows =====
end
section
/-! ===== BEGIN words of one list among another's, by their places ===== -/
theorem goodIn_r {big : List Cond} (ws : List Cond) (ps : List Nat) (hp : ws = ps.filterMap (fun i => big[i]?)) (h : ws.all goodWord = true) : GoodIn big ws := by
  intro w hw
  have h1 := List.all_eq_true.mp h w hw
  rw [hp] at hw
  obtain ⟨i, -, hi⟩ := List.mem_filterMap.mp hw
  have hm : w ∈ big := by first | exact List.mem_of_getElem? hi | exact List.getElem?_mem hi
  exact ⟨hm, good_of_word h1⟩
theorem goodIn_app {big a b : List Cond} (ha : GoodIn big a) (hb : GoodIn big b) : GoodIn big (a ++ b) := fun w h => (List.mem_append.mp h).elim (ha w) (hb w)
theorem goodIn_ca {big a b : List Cond} {c : Cond} (ha : GoodIn big (c :: a)) (hb : GoodIn big b) : GoodIn big (c :: (a ++ b)) := fun w h => (List.mem_cons.mp h).elim (fun e => ha w (List.mem_cons.mpr (Or.inl e))) (fun h => (List.mem_append.mp h).elim (fun h => ha w (List.mem_cons.mpr (Or.inr h))) (hb w))
theorem goodIn_sub {big ws : List Cond} (hm : ∀ w ∈ ws, w ∈ big) (h : ws.all goodWord = true) : GoodIn big ws := fun w hw => ⟨hm w hw, good_of_word (List.all_eq_true.mp h w hw)⟩
/-! ===== END ===== -/
/-! ===== BEGIN exceptions that leave a method, and their catching by the caller (launches without stack traces) ===== -/
section VXA
/-! The laws vx_back, vx_callV, vx_callS, vx_callSW, vx_throw0, vx_throwS follow proofs of the library, with one case more: JvmDerived/Free/Laws.lean (Back.of_free), Shelf42/LK1.lean (callV, callS), Shelf/KitTraced.lean (throwNew0V, throwNewS). -/
/-- where a method has thrown q: the class by its name, the cell, what was written, the world -/
def vx_T (XC : String → State → State → Prop) (st : State) (q : Addr) (t : State) (mc ms : Nat) (free : Addr → Prop) : Prop :=
  ∃ (E : String) (ce : Cell) (L : List Loc), XC E st t ∧ t.heap[q]? = some ce ∧ ce.vm = .none ∧ st.vm.findClass E = some ce.cls ∧ st.WarmedH t.vm ∧ st.sameButNew ({ t with vm := st.vm } : State) L mc ms ∧ ∀ z ∈ L, free z.base
def vx_Q (Qc : Array Value → State → Outcome → State → Prop) (XC : String → State → State → Prop) (mc ms : Nat) (free : Addr → Prop) : Array Value → State → Outcome → State → Prop := fun a st o t =>
  (Qc a st o t ∧ ∃ L, FrameEnd st o t L mc ms ∧ ∀ q ∈ L, free q.base) ∨ ∃ q, o = .threw q ∧ vx_T XC st q t mc ms free
/-- a callee that returns or throws -/
def vx_Met (l : Launch) (y : MethodName) (ws : List Cond) (rm : Room) (Pc : Array Value → State → Prop) (Qc : Array Value → State → Outcome → State → Prop) (XC : String → State → State → Prop) (mc ms : Nat) (free : Addr → Prop) : Prop :=
  MetFree l y (headSpec ws rm) Pc (fun _ _ _ _ _ => True) (vx_Q Qc XC mc ms free)
def vx_Post (XC : String → State → State → Prop) (mc ms : Nat) (free : Addr → Prop) : Pt → Array Value → Addr → Pt → Prop := fun A a q B =>
  ∃ (g : JFrame) (mk : MethodId) (t : State) (L : List Loc) (E : String) (ce : Cell), B.U.heap = t.heap ∧ B.U.vm = t.vm ∧ XC E (A.U.calling g mk a) t ∧ t.heap[q]? = some ce ∧ ce.vm = .none ∧ A.U.vm.findClass E = some ce.cls ∧ B.locs = A.locs ++ L ∧ (∀ z ∈ L, free z.base) ∧ B.cells = A.cells + mc ∧ B.slots = A.slots + ms
def vx_Back (l : Launch) (R : Room) (p : Program) (e : Env) (below : List Frame) (s : State) (sargs : Array Value) (y : MethodName) (len W9 : Nat)
    (Pre : Pt → Array Value → Prop) (Post : Pt → Array Value → Option Value → Pt → Prop) (PostX : Pt → Array Value → Addr → Pt → Prop) : Prop :=
  ∀ (m : MethodId) (meth : Method) (c : Code) (A : Pt) (g : JFrame) (ig : Instr) (mk : MethodId) (a : Array Value),
    Stand p l e R s m sargs below meth c A.U A.locs A.cells A.slots → g.method = m → g.locals.size = c.maxLocals → decode c.code g.pc = .ok (ig, len) →
    2 * g.monitorRoom + (g.stack.map fun v => v.category).sum ≤ W9 → A.U.methodNamed? y = some mk → Pre A a →
    (∃ (v : Option Value) (B : Pt), Stand p l e R s m sargs below meth c B.U B.locs B.cells B.slots ∧ Post A a v B ∧
      Steps p.tables e below (doInvoke e (A.U.setTop g) [] mk a).1 (B.U.setTop { g with pc := g.pc + len, stack := v.toList ++ g.stack })) ∨
    (∃ (q : Addr) (B : Pt), Stand p l e R s m sargs below meth c B.U B.locs B.cells B.slots ∧ PostX A a q B ∧
      Steps p.tables e below (doInvoke e (A.U.setTop g) [] mk a).1 ((B.U.setTop g).pushFrame (.throwing q)))
section Payer
variable {l : Launch} {R : Room} {p : Program} {e : Env} {below : List Frame} {s : State} {sargs : Array Value} {y : MethodName} {len W9 : Nat}
theorem vx_back {ws : List Cond} {rm : Room} {Pc : Array Value → State → Prop} {Qc : Array Value → State → Outcome → State → Prop} {XC : String → State → State → Prop} {mc ms : Nat} {free : Addr → Prop} {bytes : ByteArray} {maxL : Nat} {ret : Option FieldType}
    (hM : vx_Met l y ws rm Pc Qc XC mc ms free) (hblind : FrameBlind Pc) (hrc : rm.cells = mc) (hrs : rm.slots = ms)
    (hframes : rm.frames + 1 ≤ R.frames) (hlocals : W9 + (maxL + 11) + rm.locals ≤ R.locals)
    (hws : ∀ w ∈ ws, ∀ a' U, s.WarmedH U.vm → w.before a' U = true) (hcode : Cond.code y bytes maxL ret ∈ ws) (hinit : ∀ a' U, s.WarmedH U.vm → (Cond.initialized y.cls).before a' U = true) :
    vx_Back l R p e below s sargs y len W9 (PreOf R mc ms Pc) (PostOf Qc mc ms free) (vx_Post XC mc ms free) := by
  intro m meth c A g ig mk a X hg hsize hdg hW hn hp
  have h1 : (headSpec ws rm).pre.before a A.U = true := atoms_intro fun w hw => hws w hw _ _ X.warmed
  have h2 : (Cond.code y bytes maxL ret).before a A.U = true := hws _ hcode _ _ X.warmed
  have h3 : (Cond.initialized y.cls).before a A.U = true := hinit _ _ X.warmed
  have h4 : A.cells + (headSpec ws rm).room.cells ≤ R.cells := by rw [show (headSpec ws rm).room.cells = mc from hrc]; exact hp.1
  have h5 : A.slots + (headSpec ws rm).room.slots ≤ R.slots := by rw [show (headSpec ws rm).room.slots = ms from hrs]; exact hp.2.1
  have hPc : Pc a (A.U.calling g mk a) := hblind _ _ _ _ hp.2.2
  obtain ⟨U, Ls, c0, s0⟩ := A
  dsimp only [Pt.U, Pt.locs, Pt.cells, Pt.slots] at h1 h2 h3 h4 h5 X hn hPc ⊢
  obtain ⟨methY, cY, hmY, hcY, -, hlY, -, -, -, -⟩ := Cond.code_spec hn h2
  obtain ⟨kY, hkY, -⟩ := className_of_methodNamed hn
  have hinitY : kY.init = .initialized := Cond.initialized_spec (findClass_of_methodNamed hn) hkY h3
  have h : At U g.method c below := by rw [hg]; exact X.here
  have hlocals9 : W9 + (maxL + 11) + (headSpec ws rm).room.locals ≤ R.locals := hlocals
  have happ : (headSpec ws rm).appliesLoose y e.platform (U.calling g mk a) = true :=
    Spec.appliesLoose_calling (g := g) h hdg hn hkY hinitY
      (X.room_calling (g := g) (R' := (headSpec ws rm).room) hsize hmY hcY hframes (by rw [hlY]; omega) h4 h5) h1
  obtain ⟨mid, hmid⟩ := h.above
  have hfr : (U.setTop g).frames = (.java g :: mid) ++ below := by rw [State.frames_setTop' g h.top, hmid]; rfl
  obtain ⟨o, s₂, hsteps, -, hend, hq⟩ := Steps.callFree hM p X.admits X.cas X.clock (acts := []) hfr happ hPc trivial
  have hq' : vx_Q Qc XC mc ms free a (U.calling g mk a) o s₂ := hq
  rw [State.frames_setTop' g h.top] at hend
  obtain ⟨g₀, hg0⟩ := Option.isSome_iff_exists.mp h.top
  obtain ⟨r, hr⟩ := State.topJava?_eq_some.mp hg0
  have hr' : (({ U with heap := s₂.heap, slotsUsed := s₂.slotsUsed } : State).setVm s₂.vm).frames = .java g₀ :: r := hr
  rcases hq' with ⟨hqc, L, hfe, hL⟩ | ⟨q, rfl, E, ce, L, hx, hce, hcv, hcl, hW₂, hsm, hL⟩
  · obtain ⟨⟨v, rfl⟩, hW₂, e2, q2, q3, q4, q5, q6⟩ := id hfe
    have e3 : s₂ = ({ (U.calling g mk a).setFrames s₂.frames with heap := s₂.heap, slotsUsed := s₂.slotsUsed } : State).setVm s₂.vm := by
      have : s₂ = ({ s₂ with vm := (U.calling g mk a).vm } : State).setVm s₂.vm := rfl
      rw [e2] at this
      exact this
    obtain ⟨c₂, i₂, len₂, hc₂, hd₂, hf₂⟩ := hend
    have hW' : U.WarmedH s₂.vm := hW₂
    have hcc : c₂ = c := by
      have h1 : s₂.code? g.method = U.code? g.method := by
        rw [State.code?_eq, State.code?_eq, hW'.alike.method?]
      exact Option.some.inj (hc₂.symm.trans (h1.trans h.code))
    subst hcc
    have hlen : len₂ = len := by rw [hdg] at hd₂; cases hd₂; rfl
    subst hlen
    have hs₂ : s₂ = (({ U with heap := s₂.heap, slotsUsed := s₂.slotsUsed } : State).setVm s₂.vm).setTop { g with pc := g.pc + len₂, stack := v.toList ++ g.stack } := by
      refine e3.trans ?_
      rw [hf₂, State.calling_eq h.top, State.setFrames_setFrames, State.setTop_of_frames _ hr', hr]
      rfl
    have hsame : U.sameButNew ({ U with heap := s₂.heap, slotsUsed := s₂.slotsUsed } : State) L mc ms := by
      refine ⟨?_, q2, q3, q4, q5, q6⟩
      obtain ⟨t, ht, -⟩ := State.frames_cons hr
      show ({ U with heap := s₂.heap, slotsUsed := s₂.slotsUsed } : State) = { U.setFrames U.frames with heap := s₂.heap, slotsUsed := s₂.slotsUsed }
      rw [State.setFrames_self ht]
    subst hg
    refine Or.inl ⟨v, ⟨(({ U with heap := s₂.heap, slotsUsed := s₂.slotsUsed } : State).setVm s₂.vm), Ls ++ L, c0 + mc, s0 + ms⟩,
      ⟨X.admits, X.cas, X.clock, X.frames, X.room, X.hears, X.method, X.code, (X.here.setHeapUsed s₂.heap s₂.slotsUsed).setVm hW'.alike, X.tail, State.WarmedH.trans X.warmed hW', X.limits, X.bytes, X.same.trans (hsame.setVm s.vm)⟩,
      ⟨g, mk, s₂, L, rfl, rfl, hqc, rfl, hL, rfl, rfl⟩, ?_⟩
    show Steps p.tables e below _ ((({ U with heap := s₂.heap, slotsUsed := s₂.slotsUsed } : State).setVm s₂.vm).setTop { g with pc := g.pc + len₂, stack := v.toList ++ g.stack })
    rw [← hs₂]
    exact hsteps
  · obtain ⟨e2, q2, q3, q4, q5, q6⟩ := id hsm
    have e3 : s₂ = ({ (U.calling g mk a).setFrames s₂.frames with heap := s₂.heap, slotsUsed := s₂.slotsUsed } : State).setVm s₂.vm := by
      have : s₂ = ({ s₂ with vm := (U.calling g mk a).vm } : State).setVm s₂.vm := rfl
      rw [e2] at this
      exact this
    have hf₂ : s₂.frames = .throwing q :: .java g :: U.frames.tail := hend
    have hW' : U.WarmedH s₂.vm := hW₂
    have hs₂ : s₂ = ((({ U with heap := s₂.heap, slotsUsed := s₂.slotsUsed } : State).setVm s₂.vm).setTop g).pushFrame (.throwing q) := by
      refine e3.trans ?_
      rw [hf₂, State.calling_eq h.top, State.setFrames_setFrames, State.pushFrame, State.frames_setTop _ hr', State.setTop_of_frames _ hr', State.setFrames_setFrames, hr]
      rfl
    have hsame : U.sameButNew ({ U with heap := s₂.heap, slotsUsed := s₂.slotsUsed } : State) L mc ms := by
      refine ⟨?_, q2, q3, q4, q5, q6⟩
      obtain ⟨t, ht, -⟩ := State.frames_cons hr
      show ({ U with heap := s₂.heap, slotsUsed := s₂.slotsUsed } : State) = { U.setFrames U.frames with heap := s₂.heap, slotsUsed := s₂.slotsUsed }
      rw [State.setFrames_self ht]
    subst hg
    refine Or.inr ⟨q, ⟨(({ U with heap := s₂.heap, slotsUsed := s₂.slotsUsed } : State).setVm s₂.vm), Ls ++ L, c0 + mc, s0 + ms⟩,
      ⟨X.admits, X.cas, X.clock, X.frames, X.room, X.hears, X.method, X.code, (X.here.setHeapUsed s₂.heap s₂.slotsUsed).setVm hW'.alike, X.tail, State.WarmedH.trans X.warmed hW', X.limits, X.bytes, X.same.trans (hsame.setVm s.vm)⟩,
      ⟨g, mk, s₂, L, E, ce, rfl, rfl, hx, hce, hcv, hcl, rfl, hL, rfl, rfl⟩, ?_⟩
    show Steps p.tables e below _ (((({ U with heap := s₂.heap, slotsUsed := s₂.slotsUsed } : State).setVm s₂.vm).setTop g).pushFrame (.throwing q))
    rw [← hs₂]
    exact hsteps
end Payer
section Calls
variable {p : Program} {l : Launch} {e : Env} {R : Room} {s : State} {m : MethodId} {args : Array Value} {below : List Frame} {meth : Method} {c : Code} {T : State} {locs : List Loc} {cells slots : Nat}
theorem vx_callV (X : Stand p l e R s m args below meth c T locs cells slots) (hexec : p.tables.exec = Jvm.exec) {own C : String} {index : Nat} {y : MethodName} {bytes : ByteArray} {maxL : Nat} {ret : Option FieldType}
    (hown : s.vm.findClass own = some m.cls) (hlink : (Cond.methodLink own index y).before args s = true) (hinst : (Cond.instanceMethod y).before args s = true) (hsel : (Cond.selects C y y).before args s = true)
    (hcode : (Cond.code y bytes maxL ret).before args s = true) (hy : y.cls ≠ "java/lang/invoke/MethodHandle" ∧ y.cls ≠ "java/lang/invoke/VarHandle")
    {W9 : Nat} {Pre : Pt → Array Value → Prop} {Post : Pt → Array Value → Option Value → Pt → Prop} {PostX : Pt → Array Value → Addr → Pt → Prop} (hK : vx_Back l R p e below s args y 3 W9 Pre Post PostX)
    {b : Addr} {cellB : Cell} (hcell : T.heap[b]? = some cellB) (hobj : cellB.vm.isStatics = false) (hcls : s.vm.findClass C = some cellB.cls)
    {g : JFrame} (hg : g.method = m) (hsize : g.locals.size = c.maxLocals) {argsL rest : List Value} (hlen : ∀ sig, parseMethodDescriptor y.desc = some sig → argsL.length = sig.parameters.length)
    (hstack : g.stack = argsL.reverse ++ .ref b :: rest) (hW : 2 * g.monitorRoom + (rest.map fun v => v.category).sum ≤ W9) (hdg : decode c.code g.pc = .ok (.invokevirtual index, 3))
    (hpre : ∀ vm₁, s.WarmedH vm₁ → Pre ⟨T.setVm vm₁, locs, cells, slots⟩ (Value.ref b :: argsL).toArray) :
    (∃ (v : Option Value) (vm₁ : Vm) (B : Pt), s.WarmedH vm₁ ∧ Stand p l e R s m args below meth c B.U B.locs B.cells B.slots ∧ Post ⟨T.setVm vm₁, locs, cells, slots⟩ (Value.ref b :: argsL).toArray v B ∧
      ∀ target, Steps p.tables e below (B.U.setTop { g with pc := g.pc + 3, stack := v.toList ++ rest }) target → Steps p.tables e below (T.setTop g) target) ∨
    (∃ (q : Addr) (vm₁ : Vm) (B : Pt), s.WarmedH vm₁ ∧ Stand p l e R s m args below meth c B.U B.locs B.cells B.slots ∧ PostX ⟨T.setVm vm₁, locs, cells, slots⟩ (Value.ref b :: argsL).toArray q B ∧
      Steps p.tables e below (T.setTop g) ((B.U.setTop { g with stack := rest }).pushFrame (.throwing q))) := by
  obtain ⟨mk, methM, hnamed, hmethM, hstM, habM⟩ := Cond.instanceMethod_spec hinst
  obtain ⟨methM', cM, hmethM', -, -, -, -, -, -, hsigM⟩ := Cond.code_spec hnamed hcode
  cases hmethM.symm.trans hmethM'
  obtain ⟨c2, r2, m2, q1, q2, q3, q4, kP, hkP, hkPi⟩ := Cond.selects_spec hsel
  cases hcls.symm.trans q1
  cases (State.methodFound?_of_named hnamed hy).symm.trans q2
  cases hnamed.symm.trans q3
  have hselP : selectMethod e.platform s.vm cellB.cls mk = .method mk := by rw [Launch.admits_selectMethod X.admits]; exact q4
  obtain ⟨vm₁, X₁, hstep₁⟩ := X.invokevirtual hexec hown hlink hnamed hmethM hstM hkP hkPi hy (a := b) (cell := cellB) hcell
    (fun z h => by rw [h] at hobj; cases hobj) hselP hmethM habM hkP hkPi (g := g) hg (argsL := argsL) (rest := rest) (hlen _ hsigM) hstack hdg
  rcases hK m meth c ⟨T.setVm vm₁, locs, cells, slots⟩ { g with stack := rest } (.invokevirtual index) mk (Value.ref b :: argsL).toArray X₁ hg hsize hdg hW (X₁.named hnamed) (hpre vm₁ X₁.warmed) with ⟨v, B, X', hpost, hsteps⟩ | ⟨q, B, X', hpost, hsteps⟩
  · exact Or.inl ⟨v, vm₁, B, X₁.warmed, X', hpost, fun target h => hstep₁ _ fun acts => by rw [doInvoke_state]; exact hsteps.trans h⟩
  · exact Or.inr ⟨q, vm₁, B, X₁.warmed, X', hpost, hstep₁ _ fun acts => by rw [doInvoke_state]; exact hsteps⟩
theorem vx_callS (X : Stand p l e R s m args below meth c T locs cells slots) (hexec : p.tables.exec = Jvm.exec) {own : String} {index : Nat} {y : MethodName} {bytes : ByteArray} {maxL : Nat} {ret : Option FieldType}
    (hown : s.vm.findClass own = some m.cls) (hlink : (Cond.methodLink own index y).before args s = true) (hstat : (Cond.static y).before args s = true) (hinit : (Cond.initialized y.cls).before args s = true)
    (hcode : (Cond.code y bytes maxL ret).before args s = true) (hy : y.cls ≠ "java/lang/invoke/MethodHandle" ∧ y.cls ≠ "java/lang/invoke/VarHandle")
    {W9 : Nat} {Pre : Pt → Array Value → Prop} {Post : Pt → Array Value → Option Value → Pt → Prop} {PostX : Pt → Array Value → Addr → Pt → Prop} (hK : vx_Back l R p e below s args y 3 W9 Pre Post PostX)
    {g : JFrame} (hg : g.method = m) (hsize : g.locals.size = c.maxLocals) {argsL rest : List Value} (hlen : ∀ sig, parseMethodDescriptor y.desc = some sig → argsL.length = sig.parameters.length)
    (hstack : g.stack = argsL.reverse ++ rest) (hW : 2 * g.monitorRoom + (rest.map fun v => v.category).sum ≤ W9) (hdg : decode c.code g.pc = .ok (.invokestatic index, 3))
    (hpre : ∀ vm₁, s.WarmedH vm₁ → Pre ⟨T.setVm vm₁, locs, cells, slots⟩ argsL.toArray) :
    (∃ (v : Option Value) (vm₁ : Vm) (B : Pt), s.WarmedH vm₁ ∧ Stand p l e R s m args below meth c B.U B.locs B.cells B.slots ∧ Post ⟨T.setVm vm₁, locs, cells, slots⟩ argsL.toArray v B ∧
      ∀ target, Steps p.tables e below (B.U.setTop { g with pc := g.pc + 3, stack := v.toList ++ rest }) target → Steps p.tables e below (T.setTop g) target) ∨
    (∃ (q : Addr) (vm₁ : Vm) (B : Pt), s.WarmedH vm₁ ∧ Stand p l e R s m args below meth c B.U B.locs B.cells B.slots ∧ PostX ⟨T.setVm vm₁, locs, cells, slots⟩ argsL.toArray q B ∧
      Steps p.tables e below (T.setTop g) ((B.U.setTop { g with stack := rest }).pushFrame (.throwing q))) := by
  obtain ⟨mk, hnamed⟩ := Cond.code_named hcode
  obtain ⟨methM, cM, hmethM, -, -, -, -, -, -, hsigM⟩ := Cond.code_spec hnamed hcode
  have hstatic : methM.isStatic = true := Cond.static_spec hnamed hmethM hstat
  obtain ⟨kP, hkP, -⟩ := className_of_methodNamed hnamed
  have hinitP : kP.init = .initialized := Cond.initialized_spec (findClass_of_methodNamed hnamed) hkP hinit
  obtain ⟨vm₁, X₁, hstep₁⟩ := X.invokestatic hexec hown hlink hnamed hmethM hstatic hkP hinitP hy (g := g) hg (argsL := argsL) (rest := rest) (hlen _ hsigM) hstack hdg
  rcases hK m meth c ⟨T.setVm vm₁, locs, cells, slots⟩ { g with stack := rest } (.invokestatic index) mk argsL.toArray X₁ hg hsize hdg hW (X₁.named hnamed) (hpre vm₁ X₁.warmed) with ⟨v, B, X', hpost, hsteps⟩ | ⟨q, B, X', hpost, hsteps⟩
  · exact Or.inl ⟨v, vm₁, B, X₁.warmed, X', hpost, fun target h => hstep₁ _ fun acts => by rw [doInvoke_state]; exact hsteps.trans h⟩
  · exact Or.inr ⟨q, vm₁, B, X₁.warmed, X', hpost, hstep₁ _ fun acts => by rw [doInvoke_state]; exact hsteps⟩
end Calls
theorem vx_cls {s : State} {T : State} {vm₁ : Vm} {E : String} {k : ClassId} (hW : s.WarmedH vm₁) (h : (T.setVm vm₁).vm.findClass E = some k) : s.vm.findClass E = some k := by
  have h1 : vm₁.findClass E = some k := h
  rw [hW.alike.findClass] at h1
  exact h1
/-- the method's frame g, with q thrown over it -/
def vx_W (p : Program) (l : Launch) (e : Env) (R : Room) (s : State) (m : MethodId) (args : Array Value) (below : List Frame) (meth : Method) (c : Code) (H : Heap) (locs : List Loc) (cells slots : Nat) (Q : State → Prop) (g : JFrame) (q : Addr) : Prop :=
  ∀ T : State, T.heap = H → Stand p l e R s m args below meth c T locs cells slots → ∃ t, Steps p.tables e below ((T.setTop g).pushFrame (.throwing q)) t ∧ Q t
def vx_Run (p : Program) (l : Launch) (e : Env) (R : Room) (s : State) (m : MethodId) (args : Array Value) (below : List Frame) (meth : Method) (c : Code) (H : Heap) (locs : List Loc) (cells slots mc ms : Nat) (g : JFrame) (rest : List Value) (Qa : State → Outcome → State → Prop) (XC : String → State → State → Prop) (free : Addr → Prop) : Prop :=
  ∀ T : State, T.heap = H → Stand p l e R s m args below meth c T locs cells slots →
    (∃ (v : Option Value) (st₀ t T' : State) (L : List Loc), st₀.heap = H ∧ Stand p l e R s m args below meth c T' (locs ++ L) (cells + mc) (slots + ms) ∧ (∀ q ∈ L, free q.base) ∧ T'.heap = t.heap ∧ T'.vm = t.vm ∧ Qa st₀ (.returned v) t ∧
      Goes p e below T g T' { g with pc := g.pc + 3, stack := v.toList ++ rest }) ∨
    (∃ (q : Addr) (st₀ t T' : State) (L : List Loc) (E : String) (ce : Cell), st₀.heap = H ∧ Stand p l e R s m args below meth c T' (locs ++ L) (cells + mc) (slots + ms) ∧ (∀ z ∈ L, free z.base) ∧ T'.heap = t.heap ∧ T'.vm = t.vm ∧ XC E st₀ t ∧ t.heap[q]? = some ce ∧ ce.vm = .none ∧ s.vm.findClass E = some ce.cls ∧
      Steps p.tables e below (T.setTop g) ((T'.setTop { g with stack := rest }).pushFrame (.throwing q)))
def vx_X {S : Type} (px : S → Prop) (B : String → S → State → Prop) (A : Nat → Prop) : String → State → State → Prop := fun E st t => ∃ u : S, px u ∧ B E u t ∧ va_F A st t
section Runs
variable {p : Program} {l : Launch} {e : Env} {R : Room} {s : State} {m : MethodId} {args : Array Value} {below : List Frame} {meth : Method} {c : Code} {H : Heap} {locs : List Loc} {cells slots : Nat}
variable {y : MethodName} {bytes cc : ByteArray} {maxL nL mc ms n index : Nat} {ret : Option FieldType} {ws : List Cond} {rm : Room} {Pc : Array Value → State → Prop} {Qc : Array Value → State → Outcome → State → Prop} {XC : String → State → State → Prop} {free : Addr → Prop} {Ts : List Cond} {own C : String} {b : Addr} {As rest : List Value} {g : JFrame}
theorem vx_callBack (cb : CallB R s args own index y bytes maxL ret ws rm mc ms n) (hM : vx_Met l y ws rm Pc Qc XC mc ms free) (hbl : FrameBlind Pc) : vx_Back l R p e below s args y 3 8 (PreOf R mc ms Pc) (PostOf Qc mc ms free) (vx_Post XC mc ms free) := by
  obtain ⟨hrc, hrs, hfr, hlo, hws, hcw, -, hini, -⟩ := cb
  exact vx_back (bytes := bytes) (maxL := maxL) (ret := ret) hM hbl hrc hrs hfr hlo hws hcw (fun a' U hW => word_at hW (Or.inl (by first | rfl | simp [Cond.onTables, Cond.keeps, Cond.steady])) hini)
theorem vx_runV (S : CallFix p m c cc nL s args Ts own) (hM : vx_Met l y ws rm Pc Qc XC mc ms free) (cw : CallW R s args own C index y bytes maxL ret ws rm mc ms n) (hp : PreV s H C b Pc As)
    (hg : g.method = m) (hn : As.length = n) (hsize : g.locals.size = nL) (hstack : g.stack = As.reverse ++ .ref b :: rest) (hW : 2 * g.monitorRoom + (rest.map fun v => v.category).sum ≤ 8) (hdg : decode cc g.pc = .ok (.invokevirtual index, 3)) (hf : cells + mc ≤ R.cells ∧ slots + ms ≤ R.slots) :
    vx_Run p l e R s m args below meth c H locs cells slots mc ms g rest (Qc (Value.ref b :: As).toArray) XC free := by
  have hK : vx_Back l R p e below s args y 3 8 (PreOf R mc ms Pc) (PostOf Qc mc ms free) (vx_Post XC mc ms free) := vx_callBack cw.1 hM hp.1
  obtain ⟨⟨-, -, -, -, -, -, hcode, -, hy, hlen, hl⟩, hin, hse⟩ := cw
  obtain ⟨hx, hb, hml, ho, -⟩ := S
  obtain ⟨-, ⟨cellB, hcB, hoB, hclB⟩, hPc⟩ := hp
  intro T hT X
  rcases vx_callV X hx (C := C) (bytes := bytes) (maxL := maxL) (ret := ret) ho hl hin hse hcode hy hK (by rw [hT]; exact hcB) hoB hclB hg (hsize.trans hml.symm) (argsL := As) (rest := rest) (fun sig h => hn.trans (hlen sig h)) hstack hW (by rw [hb]; exact hdg)
    (fun vm₁ hW₁ => ⟨hf.1, hf.2, hPc (T.setVm vm₁) hT hW₁⟩) with ⟨v, vm₁, ⟨U', l2, c2, s2⟩, hW₁, X', ⟨g', mk, t, L, e1, e2, hq, h1, hL, h2, h3⟩, st⟩ | ⟨q, vm₁, ⟨U', l2, c2, s2⟩, hW₁, X', ⟨g', mk, t, L, E, ce, e1, e2, hq, hce, hcv, hcl, h1, hL, h2, h3⟩, st⟩
  · dsimp only [Pt.U, Pt.locs, Pt.cells, Pt.slots] at X' e1 e2 h1 h2 h3 st
    subst h1; subst h2; subst h3
    exact Or.inl ⟨v, (T.setVm vm₁).calling g' mk (Value.ref b :: As).toArray, t, U', L, hT, X', hL, e1, e2, hq, st⟩
  · dsimp only [Pt.U, Pt.locs, Pt.cells, Pt.slots] at X' e1 e2 h1 h2 h3 st hcl
    subst h1; subst h2; subst h3
    exact Or.inr ⟨q, (T.setVm vm₁).calling g' mk (Value.ref b :: As).toArray, t, U', L, E, ce, hT, X', hL, e1, e2, hq, hce, hcv, vx_cls hW₁ hcl, st⟩
theorem vx_runS (S : CallFix p m c cc nL s args Ts own) (hM : vx_Met l y ws rm Pc Qc XC mc ms free) (cw : CallB R s args own index y bytes maxL ret ws rm mc ms n ∧ (Cond.static y).before args s = true) (hp : PreS s H Pc As)
    (hg : g.method = m) (hn : As.length = n) (hsize : g.locals.size = nL) (hstack : g.stack = As.reverse ++ rest) (hW : 2 * g.monitorRoom + (rest.map fun v => v.category).sum ≤ 8) (hdg : decode cc g.pc = .ok (.invokestatic index, 3)) (hf : cells + mc ≤ R.cells ∧ slots + ms ≤ R.slots) :
    vx_Run p l e R s m args below meth c H locs cells slots mc ms g rest (Qc As.toArray) XC free := by
  have hK : vx_Back l R p e below s args y 3 8 (PreOf R mc ms Pc) (PostOf Qc mc ms free) (vx_Post XC mc ms free) := vx_callBack cw.1 hM hp.1
  obtain ⟨⟨-, -, -, -, -, -, hcode, hini, hy, hlen, hl⟩, hstt⟩ := cw
  obtain ⟨hx, hb, hml, ho, -⟩ := S
  intro T hT X
  rcases vx_callS X hx (bytes := bytes) (maxL := maxL) (ret := ret) ho hl hstt hini hcode hy hK hg (hsize.trans hml.symm) (argsL := As) (rest := rest) (fun sig h => hn.trans (hlen sig h)) hstack hW (by rw [hb]; exact hdg)
    (fun vm₁ hW₁ => ⟨hf.1, hf.2, hp.2 (T.setVm vm₁) hT hW₁⟩) with ⟨v, vm₁, ⟨U', l2, c2, s2⟩, hW₁, X', ⟨g', mk, t, L, e1, e2, hq, h1, hL, h2, h3⟩, st⟩ | ⟨q, vm₁, ⟨U', l2, c2, s2⟩, hW₁, X', ⟨g', mk, t, L, E, ce, e1, e2, hq, hce, hcv, hcl, h1, hL, h2, h3⟩, st⟩
  · dsimp only [Pt.U, Pt.locs, Pt.cells, Pt.slots] at X' e1 e2 h1 h2 h3 st
    subst h1; subst h2; subst h3
    exact Or.inl ⟨v, (T.setVm vm₁).calling g' mk As.toArray, t, U', L, hT, X', hL, e1, e2, hq, st⟩
  · dsimp only [Pt.U, Pt.locs, Pt.cells, Pt.slots] at X' e1 e2 h1 h2 h3 st hcl
    subst h1; subst h2; subst h3
    exact Or.inr ⟨q, (T.setVm vm₁).calling g' mk As.toArray, t, U', L, E, ce, hT, X', hL, e1, e2, hq, hce, hcv, vx_cls hW₁ hcl, st⟩
end Runs
section Rows
variable {p : Program} {l : Launch} {e : Env} {R : Room} {s : State} {m : MethodId} {args : Array Value} {below : List Frame} {meth : Method} {c : Code} {H : Heap} {locs : List Loc} {cells slots : Nat} {Q : State → Prop}
variable {mc ms : Nat} {free : Addr → Prop} {A0 A1 : Nat → Prop} {H0 : Heap} {a : Array Value} {pc : Nat} {ls : Array Slot} {st0 rest : List Value}
theorem vx_keep {st₀ t T' : State} {L : List Loc} (h0 : st₀.heap = H) (e1 : T'.heap = t.heap) (hS : va_S A0 H0 H locs) (hA : ∀ q, q < H.size → A1 q → A0 q) (hf : ∀ q, free q → A0 q) (hL : ∀ q ∈ L, free q.base) (hF : va_F A1 st₀ t) :
    H.size ≤ T'.heap.size ∧ (∀ q : Nat, q < H.size → ¬ A1 q → T'.heap[q]? = H[q]?) ∧ va_S A0 H0 T'.heap (locs ++ L) := by
  obtain ⟨hz, hk⟩ := hF
  rw [h0] at hz hk
  exact ⟨by rw [e1]; exact hz, fun q h1 h2 => by rw [e1]; exact hk q h1 h2,
    ⟨Nat.le_trans hS.1 (by rw [e1]; exact hz), fun q h1 h2 => by rw [e1, hk q (Nat.lt_of_lt_of_le h1 hS.1) (fun z => h2 (hA q (Nat.lt_of_lt_of_le h1 hS.1) z))]; exact hS.2.1 q h1 h2, fun q hq => by
      rcases List.mem_append.mp hq with h | h
      · exact hS.2.2 q h
      · exact hf _ (hL q h)⟩⟩
theorem vx_calli {S SX : Type} {post : Int32 → S → Prop} {px : SX → Prop} {B : S → State → Prop} {BX : String → SX → State → Prop} {AX : Nat → Prop} (hr : vx_Run p l e R s m args below meth c H locs cells slots mc ms (F0 m pc ls st0) rest (va_Qi post B A1 a) (vx_X px BX AX) free) (hS : va_S A0 H0 H locs) (hA : ∀ q, q < H.size → A1 q → A0 q) (hf : ∀ q, free q → A0 q) (hAX : ∀ q, q < H.size → AX q → A0 q)
    (kx : ∀ (E : String) (ce : Cell) (q9 : Addr) (u : SX) (t : State) (H1 : Heap) (locs1 : List Loc), t.heap = H1 → s.vm.Alike t.vm → px u → BX E u t → H.size ≤ H1.size → (∀ q : Nat, q < H.size → ¬ AX q → H1[q]? = H[q]?) → va_S A0 H0 H1 locs1 → H1[q9]? = some ce → ce.vm = .none → s.vm.findClass E = some ce.cls → vx_W p l e R s m args below meth c H1 locs1 (cells + mc) (slots + ms) Q (F0 m pc ls rest) q9)
    (kk : ∀ (r : Int32) (u : S) (t : State) (H1 : Heap) (locs1 : List Loc), t.heap = H1 → s.vm.Alike t.vm → post r u → B u t → H.size ≤ H1.size → (∀ q : Nat, q < H.size → ¬ A1 q → H1[q]? = H[q]?) → va_S A0 H0 H1 locs1 → W p l e R s m args below meth c H1 locs1 (cells + mc) (slots + ms) Q (F0 m (pc + 3) ls (.int r :: rest))) : W p l e R s m args below meth c H locs cells slots Q (F0 m pc ls st0) := by
  intro T hT X
  rcases hr T hT X with ⟨v, st₀, t, T', L, h0, X', hL, e1, e2, ⟨⟨r, u, hv, hp, hb⟩, hF⟩, st⟩ | ⟨q, st₀, t, T', L, E, ce, h0, X', hL, e1, e2, ⟨u, hp, hb, hF⟩, hce, hcv, hcl, st⟩
  · cases hv
    obtain ⟨k1, k2, k3⟩ := vx_keep h0 e1 hS hA hf hL hF
    obtain ⟨t2, a1, b1⟩ := kk r u t T'.heap (locs ++ L) e1.symm (by rw [← e2]; exact X'.warmed.alike) hp hb k1 k2 k3 T' rfl X'
    exact ⟨t2, st t2 a1, b1⟩
  · obtain ⟨k1, k2, k3⟩ := vx_keep h0 e1 hS hAX hf hL hF
    obtain ⟨t2, a1, b1⟩ := kx E ce q u t T'.heap (locs ++ L) e1.symm (by rw [← e2]; exact X'.warmed.alike) hp hb k1 k2 k3 (by rw [e1]; exact hce) hcv hcl T' rfl X'
    exact ⟨t2, st.trans a1, b1⟩
theorem vx_calll {S SX : Type} {post : Int64 → S → Prop} {px : SX → Prop} {B : S → State → Prop} {BX : String → SX → State → Prop} {AX : Nat → Prop} (hr : vx_Run p l e R s m args below meth c H locs cells slots mc ms (F0 m pc ls st0) rest (va_Ql post B A1 a) (vx_X px BX AX) free) (hS : va_S A0 H0 H locs) (hA : ∀ q, q < H.size → A1 q → A0 q) (hf : ∀ q, free q → A0 q) (hAX : ∀ q, q < H.size → AX q → A0 q)
    (kx : ∀ (E : String) (ce : Cell) (q9 : Addr) (u : SX) (t : State) (H1 : Heap) (locs1 : List Loc), t.heap = H1 → s.vm.Alike t.vm → px u → BX E u t → H.size ≤ H1.size → (∀ q : Nat, q < H.size → ¬ AX q → H1[q]? = H[q]?) → va_S A0 H0 H1 locs1 → H1[q9]? = some ce → ce.vm = .none → s.vm.findClass E = some ce.cls → vx_W p l e R s m args below meth c H1 locs1 (cells + mc) (slots + ms) Q (F0 m pc ls rest) q9)
    (kk : ∀ (r : Int64) (u : S) (t : State) (H1 : Heap) (locs1 : List Loc), t.heap = H1 → s.vm.Alike t.vm → post r u → B u t → H.size ≤ H1.size → (∀ q : Nat, q < H.size → ¬ A1 q → H1[q]? = H[q]?) → va_S A0 H0 H1 locs1 → W p l e R s m args below meth c H1 locs1 (cells + mc) (slots + ms) Q (F0 m (pc + 3) ls (.long r :: rest))) : W p l e R s m args below meth c H locs cells slots Q (F0 m pc ls st0) := by
  intro T hT X
  rcases hr T hT X with ⟨v, st₀, t, T', L, h0, X', hL, e1, e2, ⟨⟨r, u, hv, hp, hb⟩, hF⟩, st⟩ | ⟨q, st₀, t, T', L, E, ce, h0, X', hL, e1, e2, ⟨u, hp, hb, hF⟩, hce, hcv, hcl, st⟩
  · cases hv
    obtain ⟨k1, k2, k3⟩ := vx_keep h0 e1 hS hA hf hL hF
    obtain ⟨t2, a1, b1⟩ := kk r u t T'.heap (locs ++ L) e1.symm (by rw [← e2]; exact X'.warmed.alike) hp hb k1 k2 k3 T' rfl X'
    exact ⟨t2, st t2 a1, b1⟩
  · obtain ⟨k1, k2, k3⟩ := vx_keep h0 e1 hS hAX hf hL hF
    obtain ⟨t2, a1, b1⟩ := kx E ce q u t T'.heap (locs ++ L) e1.symm (by rw [← e2]; exact X'.warmed.alike) hp hb k1 k2 k3 (by rw [e1]; exact hce) hcv hcl T' rfl X'
    exact ⟨t2, st.trans a1, b1⟩
theorem vx_callf {S SX : Type} {post : UInt32 → S → Prop} {px : SX → Prop} {B : S → State → Prop} {BX : String → SX → State → Prop} {AX : Nat → Prop} (hr : vx_Run p l e R s m args below meth c H locs cells slots mc ms (F0 m pc ls st0) rest (va_Qf post B A1 a) (vx_X px BX AX) free) (hS : va_S A0 H0 H locs) (hA : ∀ q, q < H.size → A1 q → A0 q) (hf : ∀ q, free q → A0 q) (hAX : ∀ q, q < H.size → AX q → A0 q)
    (kx : ∀ (E : String) (ce : Cell) (q9 : Addr) (u : SX) (t : State) (H1 : Heap) (locs1 : List Loc), t.heap = H1 → s.vm.Alike t.vm → px u → BX E u t → H.size ≤ H1.size → (∀ q : Nat, q < H.size → ¬ AX q → H1[q]? = H[q]?) → va_S A0 H0 H1 locs1 → H1[q9]? = some ce → ce.vm = .none → s.vm.findClass E = some ce.cls → vx_W p l e R s m args below meth c H1 locs1 (cells + mc) (slots + ms) Q (F0 m pc ls rest) q9)
    (kk : ∀ (r : UInt32) (u : S) (t : State) (H1 : Heap) (locs1 : List Loc), t.heap = H1 → s.vm.Alike t.vm → post r u → B u t → H.size ≤ H1.size → (∀ q : Nat, q < H.size → ¬ A1 q → H1[q]? = H[q]?) → va_S A0 H0 H1 locs1 → W p l e R s m args below meth c H1 locs1 (cells + mc) (slots + ms) Q (F0 m (pc + 3) ls (.float r :: rest))) : W p l e R s m args below meth c H locs cells slots Q (F0 m pc ls st0) := by
  intro T hT X
  rcases hr T hT X with ⟨v, st₀, t, T', L, h0, X', hL, e1, e2, ⟨⟨r, u, hv, hp, hb⟩, hF⟩, st⟩ | ⟨q, st₀, t, T', L, E, ce, h0, X', hL, e1, e2, ⟨u, hp, hb, hF⟩, hce, hcv, hcl, st⟩
  · cases hv
    obtain ⟨k1, k2, k3⟩ := vx_keep h0 e1 hS hA hf hL hF
    obtain ⟨t2, a1, b1⟩ := kk r u t T'.heap (locs ++ L) e1.symm (by rw [← e2]; exact X'.warmed.alike) hp hb k1 k2 k3 T' rfl X'
    exact ⟨t2, st t2 a1, b1⟩
  · obtain ⟨k1, k2, k3⟩ := vx_keep h0 e1 hS hAX hf hL hF
    obtain ⟨t2, a1, b1⟩ := kx E ce q u t T'.heap (locs ++ L) e1.symm (by rw [← e2]; exact X'.warmed.alike) hp hb k1 k2 k3 (by rw [e1]; exact hce) hcv hcl T' rfl X'
    exact ⟨t2, st.trans a1, b1⟩
theorem vx_calld {S SX : Type} {post : UInt64 → S → Prop} {px : SX → Prop} {B : S → State → Prop} {BX : String → SX → State → Prop} {AX : Nat → Prop} (hr : vx_Run p l e R s m args below meth c H locs cells slots mc ms (F0 m pc ls st0) rest (va_Qd post B A1 a) (vx_X px BX AX) free) (hS : va_S A0 H0 H locs) (hA : ∀ q, q < H.size → A1 q → A0 q) (hf : ∀ q, free q → A0 q) (hAX : ∀ q, q < H.size → AX q → A0 q)
    (kx : ∀ (E : String) (ce : Cell) (q9 : Addr) (u : SX) (t : State) (H1 : Heap) (locs1 : List Loc), t.heap = H1 → s.vm.Alike t.vm → px u → BX E u t → H.size ≤ H1.size → (∀ q : Nat, q < H.size → ¬ AX q → H1[q]? = H[q]?) → va_S A0 H0 H1 locs1 → H1[q9]? = some ce → ce.vm = .none → s.vm.findClass E = some ce.cls → vx_W p l e R s m args below meth c H1 locs1 (cells + mc) (slots + ms) Q (F0 m pc ls rest) q9)
    (kk : ∀ (r : UInt64) (u : S) (t : State) (H1 : Heap) (locs1 : List Loc), t.heap = H1 → s.vm.Alike t.vm → post r u → B u t → H.size ≤ H1.size → (∀ q : Nat, q < H.size → ¬ A1 q → H1[q]? = H[q]?) → va_S A0 H0 H1 locs1 → W p l e R s m args below meth c H1 locs1 (cells + mc) (slots + ms) Q (F0 m (pc + 3) ls (.double r :: rest))) : W p l e R s m args below meth c H locs cells slots Q (F0 m pc ls st0) := by
  intro T hT X
  rcases hr T hT X with ⟨v, st₀, t, T', L, h0, X', hL, e1, e2, ⟨⟨r, u, hv, hp, hb⟩, hF⟩, st⟩ | ⟨q, st₀, t, T', L, E, ce, h0, X', hL, e1, e2, ⟨u, hp, hb, hF⟩, hce, hcv, hcl, st⟩
  · cases hv
    obtain ⟨k1, k2, k3⟩ := vx_keep h0 e1 hS hA hf hL hF
    obtain ⟨t2, a1, b1⟩ := kk r u t T'.heap (locs ++ L) e1.symm (by rw [← e2]; exact X'.warmed.alike) hp hb k1 k2 k3 T' rfl X'
    exact ⟨t2, st t2 a1, b1⟩
  · obtain ⟨k1, k2, k3⟩ := vx_keep h0 e1 hS hAX hf hL hF
    obtain ⟨t2, a1, b1⟩ := kx E ce q u t T'.heap (locs ++ L) e1.symm (by rw [← e2]; exact X'.warmed.alike) hp hb k1 k2 k3 (by rw [e1]; exact hce) hcv hcl T' rfl X'
    exact ⟨t2, st.trans a1, b1⟩
theorem vx_callv {S SX : Type} {post : S → Prop} {px : SX → Prop} {B : S → State → Prop} {BX : String → SX → State → Prop} {AX : Nat → Prop} (hr : vx_Run p l e R s m args below meth c H locs cells slots mc ms (F0 m pc ls st0) rest (va_Qv post B A1 a) (vx_X px BX AX) free) (hS : va_S A0 H0 H locs) (hA : ∀ q, q < H.size → A1 q → A0 q) (hf : ∀ q, free q → A0 q) (hAX : ∀ q, q < H.size → AX q → A0 q)
    (kx : ∀ (E : String) (ce : Cell) (q9 : Addr) (u : SX) (t : State) (H1 : Heap) (locs1 : List Loc), t.heap = H1 → s.vm.Alike t.vm → px u → BX E u t → H.size ≤ H1.size → (∀ q : Nat, q < H.size → ¬ AX q → H1[q]? = H[q]?) → va_S A0 H0 H1 locs1 → H1[q9]? = some ce → ce.vm = .none → s.vm.findClass E = some ce.cls → vx_W p l e R s m args below meth c H1 locs1 (cells + mc) (slots + ms) Q (F0 m pc ls rest) q9)
    (kk : ∀ (u : S) (t : State) (H1 : Heap) (locs1 : List Loc), t.heap = H1 → s.vm.Alike t.vm → post u → B u t → H.size ≤ H1.size → (∀ q : Nat, q < H.size → ¬ A1 q → H1[q]? = H[q]?) → va_S A0 H0 H1 locs1 → W p l e R s m args below meth c H1 locs1 (cells + mc) (slots + ms) Q (F0 m (pc + 3) ls (rest))) : W p l e R s m args below meth c H locs cells slots Q (F0 m pc ls st0) := by
  intro T hT X
  rcases hr T hT X with ⟨v, st₀, t, T', L, h0, X', hL, e1, e2, ⟨⟨u, hv, hp, hb⟩, hF⟩, st⟩ | ⟨q, st₀, t, T', L, E, ce, h0, X', hL, e1, e2, ⟨u, hp, hb, hF⟩, hce, hcv, hcl, st⟩
  · cases hv
    obtain ⟨k1, k2, k3⟩ := vx_keep h0 e1 hS hA hf hL hF
    obtain ⟨t2, a1, b1⟩ := kk u t T'.heap (locs ++ L) e1.symm (by rw [← e2]; exact X'.warmed.alike) hp hb k1 k2 k3 T' rfl X'
    exact ⟨t2, st t2 a1, b1⟩
  · obtain ⟨k1, k2, k3⟩ := vx_keep h0 e1 hS hAX hf hL hF
    obtain ⟨t2, a1, b1⟩ := kx E ce q u t T'.heap (locs ++ L) e1.symm (by rw [← e2]; exact X'.warmed.alike) hp hb k1 k2 k3 (by rw [e1]; exact hce) hcv hcl T' rfl X'
    exact ⟨t2, st.trans a1, b1⟩
/-- caught by the row x of this method's table; the rows ahead don't take it -/
theorem vx_catch {own name : String} {E : String} {ce : Cell} {q : Addr} (hown : s.vm.findClass own = some m.cls) (pre : List ExceptionTableEntry) (x : ExceptionTableEntry) (suf : List ExceptionTableEntry) (hsplit : c.exceptionTable.toList = pre ++ x :: suf)
    (hpass : ∀ z ∈ pre, covers z pc = false ∨ (z.catchType ≠ 0 ∧ ∃ nm : String, (Cond.classLink own z.catchType nm).before args s = true ∧ va_Nc E nm s)) (hx : covers x pc = true) (h0 : x.catchType ≠ 0)
    (hlink : (Cond.classLink own x.catchType name).before args s = true) (hcast : (Cond.castable E name).before args s = true) (hcell : H[q]? = some ce) (hv : ce.vm = .none) (hcl : s.vm.findClass E = some ce.cls)
    (kk : W p l e R s m args below meth c H locs cells slots Q (F0 m x.handlerPc ls [.ref q])) : vx_W p l e R s m args below meth c H locs cells slots Q (F0 m pc ls rest) q := by
  intro T hT X
  have hpl : e.platform.magicAccessors = ({} : Platform).magicAccessors := by rw [X.admits.platform]
  obtain ⟨c3, c4, hc3, hc4, hasg⟩ := Cond.castable_spec hcast
  cases Option.some.inj (hc3.symm.trans hcl)
  obtain ⟨c5, hc5, hcl5⟩ := Cond.classLink_spec hown hlink e.platform hpl
  cases Option.some.inj (hc4.symm.trans hc5)
  obtain ⟨vm', X', st⟩ := X.thenCaughtThrough q (g := F0 m pc ls rest) rfl (Steps.refl _) (by rw [hT]; exact hcell) (by rw [hv]; rfl) (by obtain ⟨k9, h9, -⟩ := Vm.findClass_spec hcl; exact ⟨k9, h9⟩) pre x suf hsplit
    (fun z hz => by
      rcases hpass z hz with h | ⟨hz0, nm, hl1, hn1⟩
      · exact Or.inl h
      · obtain ⟨c6, hc6, hcl6⟩ := Cond.classLink_spec hown hl1 e.platform hpl
        obtain ⟨a8, b8, h1, h2, h3⟩ := hn1
        cases Option.some.inj (h1.symm.trans hcl)
        cases Option.some.inj (h2.symm.trans hc6)
        exact Or.inr ⟨hz0, _, hcl6, h3⟩) hx (Or.inr ⟨h0, c4, hcl5, hasg⟩)
  obtain ⟨t, a1, b1⟩ := kk (T.setVm vm') hT X'
  exact ⟨t, st.trans a1, b1⟩
end Rows
section Ends
variable {p : Program} {l : Launch} {e : Env} {R : Room} {s : State} {m : MethodId} {args : Array Value} {below : List Frame} {meth : Method} {c : Code} {H : Heap} {locs : List Loc} {cells slots : Nat} {Q : State → Prop}
variable {mc ms : Nat} {free : Addr → Prop} {A0 A1 : Nat → Prop} {H0 : Heap} {a : Array Value} {ls : Array Slot} {st0 rest : List Value}
variable {Qc : Array Value → State → Outcome → State → Prop} {XC : String → State → State → Prop}
/-- what a body that may throw owes at its end -/
def vx_MQ (below : List Frame) (Qc : Array Value → State → Outcome → State → Prop) (XC : String → State → State → Prop) (a : Array Value) (s : State) (mc ms : Nat) (free : Addr → Prop) : State → Prop := fun t =>
  ∃ o, t.status = .running ∧ Ended t below o ∧ vx_Q Qc XC mc ms free a s o t
theorem vx_ret {g : JFrame} {mc ms : Nat} (k : W p l e R s m args below meth c H locs cells slots (MQ below Qc args s mc ms free) g) : W p l e R s m args below meth c H locs cells slots (vx_MQ below Qc XC args s mc ms free) g := by
  intro T hT X
  obtain ⟨t, a1, o, b1, b2, b3, b4⟩ := k T hT X
  exact ⟨t, a1, o, b1, b2, Or.inl ⟨b3, b4⟩⟩
/-- not caught here: it goes on to the caller -/
theorem vx_widen {g : JFrame} {q : Addr} {k n : Nat} (h1 : cells ≤ k) (h2 : slots ≤ n) (kk : vx_W p l e R s m args below meth c H locs k n Q g q) : vx_W p l e R s m args below meth c H locs cells slots Q g q := fun T hT X => kk T hT (stand_widen X h1 h2)
theorem vx_out {pc : Nat} {E : String} {ce : Cell} {q : Addr} {mc ms : Nat} (hout : ∀ x ∈ c.exceptionTable.toList, covers x pc = false) (hlocks : meth.locks = false) (hcell : H[q]? = some ce) (hv : ce.vm = .none) (hcl : s.vm.findClass E = some ce.cls)
    (hx : ∀ t : State, t.heap = H → s.vm.Alike t.vm → XC E s t) (hf : ∀ z ∈ locs, free z.base) (hc : cells ≤ mc) (hs : slots ≤ ms) :
    vx_W p l e R s m args below meth c H locs cells slots (vx_MQ below Qc XC args s mc ms free) (F0 m pc ls rest) q := by
  intro T hT X
  obtain ⟨st1, hrun, hend, hW, hsm⟩ := X.leaveThrown q (g := F0 m pc ls rest) rfl rfl rfl hout hlocks
  have hcell9 : (T.setFrames (.throwing q :: below)).heap[q]? = some ce := by
    show T.heap[q]? = some ce
    rw [hT]; exact hcell
  exact ⟨_, st1, .threw q, hrun, hend, Or.inr ⟨q, rfl, E, ce, locs, hx _ hT hW.alike, hcell9, hv, hcl, hW, hsm.mono hc hs, hf⟩⟩
theorem vx_frame {U : State} {k n : Nat} (h : s.sameButNew ({ U with vm := s.vm } : State) locs k n) : s.heap.size ≤ U.heap.size ∧ ∀ q : Nat, q < s.heap.size → (∀ z ∈ locs, z.base ≠ q) → U.heap[q]? = s.heap[q]? := by
  obtain ⟨-, h2, -, -, -, h6⟩ := h
  refine ⟨h2, fun q hq hz => ?_⟩
  obtain ⟨c9, e1, e2, e3, e4⟩ := h6 q _ (Array.getElem?_eq_getElem hq)
  have hs : c9.slots = (s.heap[q]).slots := Array.ext_getElem? fun i => e4 i fun hm => hz _ hm rfl
  have h9 : c9 = s.heap[q] := by
    rw [hs] at e2
    exact e2
  have e5 : U.heap[q]? = some c9 := e1
  rw [e5, h9, Array.getElem?_eq_getElem hq]
/-- the words of a throw but the four that speak of the heap -/
def vx_no (w : Cond) : Bool := decide (w ≠ .isRef (.static Bundle.tN "UNASSIGNED_STACK" Bundle.steD)) && decide (w ≠ .isRef (.static Bundle.tN "SUPPRESSED_SENTINEL" Bundle.listD)) && decide (w ≠ .laysStatic Bundle.tN "UNASSIGNED_STACK" Bundle.steD) && decide (w ≠ .laysStatic Bundle.tN "SUPPRESSED_SENTINEL" Bundle.listD)
def vx_at0 (own : String) (ic : Nat) (X : String) (names : List String) : List Cond := (Bundle.ownAtoms0 own ic X names).filter vx_no
def vx_atS (own : String) (ic : Nat) (X : String) (names : List String) : List Cond := (Bundle.ownAtoms own ic X names).filter vx_no
/-- a word that the tables alone decide, or a good one -/
def vx_ot (w : Cond) : Bool := w.onTables || goodWord w
theorem vx_ot_at {args a' : Array Value} {s U : State} {w : Cond} (hW : s.WarmedH U.vm) (hvm : s.vm = U.vm) (hg : vx_ot w = true) (h : w.before args s = true) : w.before a' U = true := by
  simp only [vx_ot, Bool.or_eq_true] at hg
  rcases hg with hg | hg
  · exact va_tabs hg hvm h
  · exact word_at hW (good_of_word hg) h
/-- a list's words: the good ones out of the method's own list, the others by premises of their own -/
theorem vx_hat {args : Array Value} {s : State} {L B : List Cond} (h1 : ∀ w ∈ L.filter goodWord, w.before args s = true) (h2 : ∀ w ∈ L.filter (fun w => !goodWord w), w ∈ B) (h3 : ∀ w ∈ B, w.before args s = true) : ∀ w ∈ L, w.before args s = true := by
  intro w hw
  by_cases g : goodWord w = true
  · exact h1 w (List.mem_filter.mpr ⟨hw, g⟩)
  · refine h3 w (h2 w (List.mem_filter.mpr ⟨hw, ?_⟩))
    show (!goodWord w) = true
    cases hgw : goodWord w
    · rfl
    · exact absurd hgw g
theorem vx_c {args : Array Value} {s : State} {w : Cond} {B : List Cond} (h : w.before args s = true) (t : ∀ w ∈ B, w.before args s = true) : ∀ w' ∈ w :: B, w'.before args s = true := fun w' h' => (List.mem_cons.mp h').elim (fun e => by rw [e]; exact h) (t w')
theorem vx_n {args : Array Value} {s : State} : ∀ w ∈ ([] : List Cond), w.before args s = true := fun _ h => nomatch h
theorem vx_own {args : Array Value} {s : State} {L : List Cond} (h1 : ∀ w ∈ L.filter vx_no, w.before args s = true)
    (hU : (Cond.isRef (.static Bundle.tN "UNASSIGNED_STACK" Bundle.steD)).before args s = true) (hN : (Cond.isRef (.static Bundle.tN "SUPPRESSED_SENTINEL" Bundle.listD)).before args s = true)
    (lU : (Cond.laysStatic Bundle.tN "UNASSIGNED_STACK" Bundle.steD).before args s = true) (lN : (Cond.laysStatic Bundle.tN "SUPPRESSED_SENTINEL" Bundle.listD).before args s = true) : ∀ w ∈ L, w.before args s = true := by
  intro w hw
  by_cases e1 : w = .isRef (.static Bundle.tN "UNASSIGNED_STACK" Bundle.steD)
  · rw [e1]; exact hU
  · by_cases e2 : w = .isRef (.static Bundle.tN "SUPPRESSED_SENTINEL" Bundle.listD)
    · rw [e2]; exact hN
    · by_cases e3 : w = .laysStatic Bundle.tN "UNASSIGNED_STACK" Bundle.steD
      · rw [e3]; exact lU
      · by_cases e4 : w = .laysStatic Bundle.tN "SUPPRESSED_SENTINEL" Bundle.listD
        · rw [e4]; exact lN
        · exact h1 w (List.mem_filter.mpr ⟨hw, by unfold vx_no; rw [decide_eq_true e1, decide_eq_true e2, decide_eq_true e3, decide_eq_true e4]; rfl⟩)
/-- where a static field lies, its class's statics cell in H -/
def vx_L (C n d : String) (A : Nat → Prop) (U : State) (H : Heap) : Prop := ∃ (c : ClassId) (k : Class) (i : Nat) (f : Field) (a : Nat) (cell : Cell), U.vm.findClass C = some c ∧ U.fieldFound? C n d = some (c, k, i, f) ∧ f.isStatic = true ∧ k.statics = some a ∧ H[a]? = some cell ∧ cell.vm.isStatics = true ∧ cell.cls = c ∧ f.slot < cell.slots.size ∧ k.staticTypes[f.slot]? = some f.type ∧ ¬ A a
theorem vx_L.moved {C n d : String} {A : Nat → Prop} {u U : State} {H : Heap} (hvm : u.vm.Alike U.vm) (h : vx_L C n d A u H) : vx_L C n d A U H := by
  obtain ⟨c, k, i, f, a, cell, h1, h2, h3, h4, h5, h6, h7, h8, h9, h10⟩ := h
  obtain ⟨k', hi', he⟩ := State.fieldFound?_setVm hvm h2
  exact ⟨c, k', i, f, a, cell, by rw [hvm.findClass]; exact h1, hi', h3, by rw [he]; exact h4, h5, h6, h7, h8, by rw [he]; exact h9, h10⟩
theorem vx_L.kept {C n d : String} {A : Nat → Prop} {U : State} {H H1 : Heap} (h : vx_L C n d A U H) (hq : ∀ a : Nat, a < H.size → ¬ A a → H1[a]? = H[a]?) : vx_L C n d A U H1 := by
  obtain ⟨c, k, i, f, a, cell, h1, h2, h3, h4, h5, h6, h7, h8, h9, h10⟩ := h
  exact ⟨c, k, i, f, a, cell, h1, h2, h3, h4, by rw [hq a (Array.getElem?_eq_some_iff.mp h5).1 h10]; exact h5, h6, h7, h8, h9, h10⟩
theorem vx_L.narrow {C n d : String} {A B : Nat → Prop} {U : State} {H : Heap} (h : vx_L C n d A U H) (hAB : ∀ q, B q → A q) : vx_L C n d B U H := by
  obtain ⟨c, k, i, f, a, cell, h1, h2, h3, h4, h5, h6, h7, h8, h9, h10⟩ := h
  exact ⟨c, k, i, f, a, cell, h1, h2, h3, h4, h5, h6, h7, h8, h9, fun z => h10 (hAB _ z)⟩
theorem vx_L.word {C n d : String} {A : Nat → Prop} {s : State} {args : Array Value} (h : vx_L C n d A s s.heap) : (Cond.laysStatic C n d).before args s = true := by
  obtain ⟨c, k, i, f, a, cell, h1, h2, h3, h4, h5, h6, h7, h8, h9, -⟩ := h
  show (Cond.laysStatic C n d).holds args s none s [] = true
  exact Cond.laysStatic_of h1 h2 h3 h4 h5 h6 h7 h8 h9
/-- .. and what it holds: null or some reference -/
def vx_Zq (C n d : String) (A : Nat → Prop) (U : State) (H : Heap) : Prop := va_Zq C n d A U H ∧ vx_L C n d A U H
theorem vx_Zq.moved {C n d : String} {A : Nat → Prop} {u U : State} {H : Heap} (hvm : u.vm.Alike U.vm) (h : vx_Zq C n d A u H) : vx_Zq C n d A U H := ⟨va_Zq.moved hvm h.1, vx_L.moved hvm h.2⟩
theorem vx_Zq.kept {C n d : String} {A : Nat → Prop} {U : State} {H H1 : Heap} (h : vx_Zq C n d A U H) (hq : ∀ a : Nat, a < H.size → ¬ A a → H1[a]? = H[a]?) : vx_Zq C n d A U H1 := ⟨va_Zq.kept h.1 hq, vx_L.kept h.2 hq⟩
theorem vx_Zq.narrow {C n d : String} {A B : Nat → Prop} {U : State} {H : Heap} (h : vx_Zq C n d A U H) (hAB : ∀ q, B q → A q) : vx_Zq C n d B U H := ⟨va_Zq.narrow h.1 hAB, vx_L.narrow h.2 hAB⟩
theorem vx_Zqof {args : Array Value} {s : State} {C n d : String} {A : Nat → Prop} (hl : (Cond.laysStatic C n d).before args s = true) (hini : (Cond.initialized C).before args s = true) (h : (Cond.isRef (.static C n d)).before args s = true) (hA : ∀ a : Nat, a < s.heap.size → ¬ A a) : vx_Zq C n d A s s.heap := by
  refine ⟨va_Zqof hl hini h hA, ?_⟩
  obtain ⟨c, k, i, f, a, cell, h1, h2, h3, h4, h5, h6, h7, h8, h9⟩ := Cond.laysStatic_spec hl
  exact ⟨c, k, i, f, a, cell, h1, h2, h3, h4, h5, h6, h7, h8, h9, hA a (Array.getElem?_eq_some_iff.mp h5).1⟩
theorem vx_isRef {C n d : String} {v : Value} {A : Nat → Prop} {s : State} {args : Array Value} (h : va_Z C n d v A s s.heap) (hv : v.isRef = true) : (Cond.isRef (.static C n d)).before args s = true := by
  obtain ⟨cf, kf, fi, f, a, cell, h1, h2, h3, h4, h5, h6, h7, -⟩ := h
  have he : (Term.static C n d).eval args s none [] s = some v := by
    simp [Term.eval, State.fieldNamed?, h1, h2, h4, h5, h6, h7]
  simp only [Cond.before, Cond.holds, Cond.value, he]
  cases v <;> simp_all [Value.isRef]
theorem vx_isRefq {C n d : String} {A : Nat → Prop} {s : State} {args : Array Value} (h : va_Zq C n d A s s.heap) : (Cond.isRef (.static C n d)).before args s = true := by
  rcases h with h | ⟨t, h⟩
  · exact vx_isRef h rfl
  · exact vx_isRef h rfl
/-- the same frame, seen from here: as if the method were called anew in this heap -/
theorem vx_rebase {T : State} (X : Stand p l e R s m args below meth c T locs cells slots) {R' : Room} (hf : R'.frames ≤ R.frames) (hl : R'.locals ≤ R.locals) (hc : cells + R'.cells ≤ R.cells) (hs : slots + R'.slots ≤ R.slots) :
    Stand p l e R' ((T.setVm s.vm).setFrames (.invoking m args :: below)) m args below meth c T [] 0 0 := by
  have htop : (T.setVm s.vm).topJava?.isSome := X.here.top
  have hF : ((T.setVm s.vm).setFrames (.invoking m args :: below)).frames = .invoking m args :: below := State.frames_setFrames _ (State.cur_lt_of_top htop)
  obtain ⟨g₀, hg0⟩ := Option.isSome_iff_exists.mp htop
  obtain ⟨r, hr⟩ := State.topJava?_eq_some.mp hg0
  have hl9 : e.platform.stackLimits (T.setVm s.vm).me = e.platform.stackLimits s.me := X.limits
  have hb9 : (T.setVm s.vm).me.stackBytes = s.me.stackBytes := X.bytes
  refine ⟨X.admits, X.cas, X.clock, hF, ?_, X.hears, X.method, X.code, X.here, X.tail, X.warmed, ?_, ?_, ?_⟩
  · have h := X.room
    have hU : ((T.setVm s.vm).setFrames (.invoking m args :: below)).localsInUse = s.localsInUse := by
      rw [State.localsInUse_invoking hF (meth := meth) (c := c) X.method X.code, State.localsInUse_invoking X.frames X.method X.code]
    simp only [State.hasRoom, Bool.and_eq_true, decide_eq_true_eq] at h ⊢
    obtain ⟨⟨⟨⟨h1, h2, h3, h4, h5, h6⟩, h7⟩, h8⟩, h9⟩ := h
    rw [X.frames, List.length_cons] at h2 h3
    have q1 := X.heapSize
    have q2 := X.used
    simp only [hF, hU, List.length_cons, State.stackLimits_setFrames, State.stackBytes_setFrames, hl9, hb9]
    refine ⟨⟨⟨⟨by omega, by omega, by omega, by omega, by omega, h6⟩, ?_⟩, ?_⟩, X.book⟩
    · show T.heap.size + R'.cells ≤ e.platform.maxCells
      omega
    · show T.slotsUsed + R'.slots ≤ e.platform.maxSlots
      omega
  · rw [State.stackLimits_setFrames]; rfl
  · rw [State.stackBytes_setFrames]; rfl
  · refine ⟨?_, Nat.le_refl _, Nat.le_refl _, ?_, ?_, fun a c9 h9 => ⟨c9, h9, rfl, rfl, fun _ _ => rfl⟩⟩
    · obtain ⟨t, ht, -⟩ := State.frames_cons hr
      show T.setVm s.vm = { ((T.setVm s.vm).setFrames (.invoking m args :: below)).setFrames (T.setVm s.vm).frames with heap := T.heap, slotsUsed := T.slotsUsed }
      rw [State.setFrames_setFrames, State.setFrames_self ht]
      rfl
    · show T.slotsUsed = T.slotsUsed + ((T.heap.toList.drop T.heap.size).map (·.slots.size)).sum
      rw [List.drop_eq_nil_of_le (Nat.le_of_eq Array.length_toList)]
      rfl
    · show ((T.heap.toList.drop T.heap.size).map (·.slots.size)).sum ≤ 0
      rw [List.drop_eq_nil_of_le (Nat.le_of_eq Array.length_toList)]
      exact Nat.le_refl _
/-- 'throw new E()': new; dup; invokespecial; athrow -/
theorem vx_throw0 {cc : ByteArray} {pc : Nat} (hexec : p.tables.exec = Jvm.exec) (hb : c.code = cc) (hl : l.stackTraces = false) {own cls : String} {names : List String} {ik ic mc ms : Nat} {A : Nat → Prop}
    (hown : s.vm.findClass own = some m.cls) (hcls : Bundle.fit cls = true) (hnames : ∀ n ∈ names, Bundle.fit n = true)
    (hk : (Cond.classLink own ik cls).before args s = true) (hini : (Cond.initialized cls).before args s = true) (hat : ∀ w ∈ vx_at0 own ic cls names, w.before args s = true)
    (hgood : ∀ w ∈ Cond.classLink own ik cls :: Cond.initialized cls :: vx_at0 own ic cls names, vx_ot w = true)
    (hU : vx_Zq Bundle.tN "UNASSIGNED_STACK" Bundle.steD A s s.heap) (hN : vx_Zq Bundle.tN "SUPPRESSED_SENTINEL" Bundle.listD A s s.heap) (hS : va_S A s.heap H locs) (hsize : ls.size = c.maxLocals)
    (d0 : decode cc pc = .ok (.new ik, 3)) (d3 : decode cc (pc + 3) = .ok (.dup, 1)) (d4 : decode cc (pc + 4) = .ok (.invokespecial ic, 3)) (d7 : decode cc (pc + 7) = .ok (.athrow, 1))
    (hout : ∀ x ∈ c.exceptionTable.toList, covers x (pc + 7) = false)
    (hRframes : names.length + 3 < R.frames) (hRlocals : (rest.map fun v => v.category).sum + (13 * (names.length + 1) + 42) ≤ R.locals) (hRcells : cells + 1 ≤ R.cells) (hRslots : slots + 6 ≤ R.slots) (hlocks : meth.locks = false)
    (hx : ∀ t : State, s.vm.Alike t.vm → H.size ≤ t.heap.size → (∀ q : Nat, q < H.size → t.heap[q]? = H[q]?) → XC cls s t)
    (hf : ∀ z ∈ locs, free z.base) (hc : cells + 1 ≤ mc) (hs : slots + 6 ≤ ms) :
    W p l e R s m args below meth c H locs cells slots (vx_MQ below Qc XC args s mc ms free) (F0 m pc ls rest) := by
  intro T hT X
  have htr : e.platform.stackTraces = false := (show e.platform.stackTraces = l.stackTraces by rw [X.admits.platform]).trans hl
  have Y := vx_rebase X (R' := { frames := R.frames, locals := R.locals, cells := 1, slots := 6 }) (Nat.le_refl _) (Nat.le_refl _) hRcells hRslots
  obtain ⟨s', hA⟩ : ∃ z, z = (T.setVm s.vm).setFrames (.invoking m args :: below) := ⟨_, rfl⟩
  rw [← hA] at Y
  have hvm : s'.vm = s.vm := by rw [hA]; rfl
  have hhp : s'.heap = H := by rw [hA]; exact hT
  have hW0 : s.WarmedH s'.vm := by rw [hvm]; exact State.WarmedH.refl s
  have hat' : ∀ w ∈ vx_at0 own ic cls names, w.before args s' = true := fun w hw => vx_ot_at hW0 hvm.symm (hgood w (List.mem_cons_of_mem _ (List.mem_cons_of_mem _ hw))) (hat w hw)
  have hk' : (Cond.classLink own ik cls).before args s' = true := vx_ot_at hW0 hvm.symm (hgood _ List.mem_cons_self) hk
  have hini' : (Cond.initialized cls).before args s' = true := vx_ot_at hW0 hvm.symm (hgood _ (List.mem_cons_of_mem _ List.mem_cons_self)) hini
  have hU' : vx_Zq Bundle.tN "UNASSIGNED_STACK" Bundle.steD A s' s'.heap := by rw [hhp]; exact vx_Zq.moved hW0.alike (hU.kept hS.2.1)
  have hN' : vx_Zq Bundle.tN "SUPPRESSED_SENTINEL" Bundle.listD A s' s'.heap := by rw [hhp]; exact vx_Zq.moved hW0.alike (hN.kept hS.2.1)
  have h : ∀ w ∈ Bundle.ownAtoms0 own ic cls names, w.before args s' = true := vx_own hat' (vx_isRefq hU'.1) (vx_isRefq hN'.1) hU'.2.word hN'.2.word
  have hown' : s'.vm.findClass own = some m.cls := by rw [hvm]; exact hown
  have hins : (Cond.instantiable cls 6).before args s' = true := h _ (by simp [Bundle.ownAtoms0])
  obtain ⟨vm₁, cX, kX, hfX, hkX, -, -, X₁, st1⟩ := Y.newCold hexec (own := own) (C := cls) (index := ik) (n := 6) hown' hk' hins hini'
    (g := F0 m pc ls rest) rfl (by rw [hb]; exact d0) (Nat.le_refl _) (Nat.le_refl _)
  generalize hT1 : (T.setVm vm₁).pushCell { cls := cX, slots := kX.instanceTypes.map defaultValue, vm := .none } = T1 at X₁ st1
  have hcat : (Value.ref T.heap.size).category = 1 := rfl
  have hcellA : T1.heap[T.heap.size]? = some (freshCell cX kX) := by rw [← hT1]; exact State.heap_pushCell_size _ _
  have d3' : decode c.code (pc + 3) = .ok (.dup, 1) := by rw [hb]; exact d3
  obtain ⟨U, hsteps, hrun, hend, hW, hsame, ce, hce, hO⟩ := X₁.ctorThrow0 hexec htr (own := own) (cls := cls) (names := names) (ic := ic) hown' hcls hnames h (fun x hx => nomatch hx) hfX hkX hcellA (by rw [hhp, hT]; exact Nat.le_refl _)
    (g := { method := m, pc := pc + 4, locals := ls, stack := .ref T.heap.size :: .ref T.heap.size :: rest, locked := none }) rfl hsize rfl rfl (rest := rest) rfl
    (by rw [hb]; exact d4) (by rw [hb]; exact d7) hout hRframes (by simp only [List.map_cons, List.sum_cons, hcat]; omega) hlocks
  obtain ⟨f1, f2⟩ := vx_frame hsame
  rw [hhp] at f1 f2
  have hWs : s.WarmedH U.vm := State.WarmedH.trans hW0 hW
  have hcl : s.vm.findClass cls = some ce.cls := by
    have h9 := hO.cls
    rw [hvm] at h9
    exact h9
  have hall : s.sameButNew ({ U with vm := s.vm } : State) locs mc ms := by
    subst hA
    obtain ⟨e1, e2⟩ := hsame
    rw [State.setFrames_setFrames] at e1
    have h2 : (T.setVm s.vm).sameButNew ({ U with vm := s.vm } : State) [] (0 + 1) (0 + 6) := ⟨e1, e2⟩
    have h3 := X.same.trans h2
    rw [List.append_nil] at h3
    exact h3.mono hc hs
  refine ⟨U, ?_, .threw T.heap.size, hrun, hend, Or.inr ⟨T.heap.size, rfl, cls, ce, locs, hx U hWs.alike f1 (fun q hq => f2 q hq (fun z hz => nomatch hz)), hce, hO.vm, hcl, hWs, hall, hf⟩⟩
  refine st1 _ ?_
  show Steps p.tables e below (T1.setTop { method := m, pc := pc + 3, locals := ls, stack := .ref T.heap.size :: rest, locked := none }) _
  jvm_step X₁.here [X₁.here.top, hexec, d3', Value.category]
  exact hsteps
/-- 'throw new E("text")': new; dup; ldc; invokespecial; athrow -/
theorem vx_throwS {cc : ByteArray} {pc : Nat} (hexec : p.tables.exec = Jvm.exec) (hb : c.code = cc) (hl : l.stackTraces = false) {own cls text : String} {names : List String} {ik is ic mc ms sa : Nat} {A : Nat → Prop}
    (hown : s.vm.findClass own = some m.cls) (hcls : Bundle.fit cls = true) (hnames : ∀ n ∈ names, Bundle.fit n = true)
    (hk : (Cond.classLink own ik cls).before args s = true) (hini : (Cond.initialized cls).before args s = true) (hstr : vk_R own is text sa s) (hat : ∀ w ∈ vx_atS own ic cls names, w.before args s = true)
    (hgood : ∀ w ∈ Cond.classLink own ik cls :: Cond.initialized cls :: vx_atS own ic cls names, vx_ot w = true)
    (hU : vx_Zq Bundle.tN "UNASSIGNED_STACK" Bundle.steD A s s.heap) (hN : vx_Zq Bundle.tN "SUPPRESSED_SENTINEL" Bundle.listD A s s.heap) (hS : va_S A s.heap H locs) (hsize : ls.size = c.maxLocals)
    (d0 : decode cc pc = .ok (.new ik, 3)) (d3 : decode cc (pc + 3) = .ok (.dup, 1)) (d4 : decode cc (pc + 4) = .ok (.ldc is, 2)) (d6 : decode cc (pc + 6) = .ok (.invokespecial ic, 3)) (d9 : decode cc (pc + 9) = .ok (.athrow, 1))
    (hout : ∀ x ∈ c.exceptionTable.toList, covers x (pc + 9) = false)
    (hRframes : names.length + 3 < R.frames) (hRlocals : (rest.map fun v => v.category).sum + (13 * (names.length + 1) + 43) ≤ R.locals) (hRcells : cells + 1 ≤ R.cells) (hRslots : slots + 6 ≤ R.slots) (hlocks : meth.locks = false)
    (hx : ∀ t : State, s.vm.Alike t.vm → H.size ≤ t.heap.size → (∀ q : Nat, q < H.size → t.heap[q]? = H[q]?) → XC cls s t)
    (hf : ∀ z ∈ locs, free z.base) (hc : cells + 1 ≤ mc) (hs : slots + 6 ≤ ms) :
    W p l e R s m args below meth c H locs cells slots (vx_MQ below Qc XC args s mc ms free) (F0 m pc ls rest) := by
  intro T hT X
  have htr : e.platform.stackTraces = false := (show e.platform.stackTraces = l.stackTraces by rw [X.admits.platform]).trans hl
  have Y := vx_rebase X (R' := { frames := R.frames, locals := R.locals, cells := 1, slots := 6 }) (Nat.le_refl _) (Nat.le_refl _) hRcells hRslots
  obtain ⟨s', hA⟩ : ∃ z, z = (T.setVm s.vm).setFrames (.invoking m args :: below) := ⟨_, rfl⟩
  rw [← hA] at Y
  have hvm : s'.vm = s.vm := by rw [hA]; rfl
  have hhp : s'.heap = H := by rw [hA]; exact hT
  have hW0 : s.WarmedH s'.vm := by rw [hvm]; exact State.WarmedH.refl s
  have hat' : ∀ w ∈ vx_atS own ic cls names, w.before args s' = true := fun w hw => vx_ot_at hW0 hvm.symm (hgood w (List.mem_cons_of_mem _ (List.mem_cons_of_mem _ hw))) (hat w hw)
  have hk' : (Cond.classLink own ik cls).before args s' = true := vx_ot_at hW0 hvm.symm (hgood _ List.mem_cons_self) hk
  have hini' : (Cond.initialized cls).before args s' = true := vx_ot_at hW0 hvm.symm (hgood _ (List.mem_cons_of_mem _ List.mem_cons_self)) hini
  have hU' : vx_Zq Bundle.tN "UNASSIGNED_STACK" Bundle.steD A s' s'.heap := by rw [hhp]; exact vx_Zq.moved hW0.alike (hU.kept hS.2.1)
  have hN' : vx_Zq Bundle.tN "SUPPRESSED_SENTINEL" Bundle.listD A s' s'.heap := by rw [hhp]; exact vx_Zq.moved hW0.alike (hN.kept hS.2.1)
  have h : ∀ w ∈ Bundle.ownAtoms own ic cls names, w.before args s' = true := vx_own hat' (vx_isRefq hU'.1) (vx_isRefq hN'.1) hU'.2.word hN'.2.word
  have hown' : s'.vm.findClass own = some m.cls := by rw [hvm]; exact hown
  have hins : (Cond.instantiable cls 6).before args s' = true := h _ (by simp [Bundle.ownAtoms])
  obtain ⟨vm₁, cX, kX, hfX, hkX, -, -, X₁, st1⟩ := Y.newCold hexec (own := own) (C := cls) (index := ik) (n := 6) hown' hk' hins hini'
    (g := F0 m pc ls rest) rfl (by rw [hb]; exact d0) (Nat.le_refl _) (Nat.le_refl _)
  generalize hT1 : (T.setVm vm₁).pushCell { cls := cX, slots := kX.instanceTypes.map defaultValue, vm := .none } = T1 at X₁ st1
  have hcat : (Value.ref T.heap.size).category = 1 := rfl
  have hcellA : T1.heap[T.heap.size]? = some (freshCell cX kX) := by rw [← hT1]; exact State.heap_pushCell_size _ _
  have d3' : decode c.code (pc + 3) = .ok (.dup, 1) := by rw [hb]; exact d3
  have d4' : decode c.code (pc + 4) = .ok (.ldc is, 2) := by rw [hb]; exact d4
  have hstr' : vk_R own is text sa s' := vk_R.warm hW0 hstr
  obtain ⟨U, hsteps, hrun, hend, hW, hsame, ce, hce, hO⟩ := X₁.ctorThrowS hexec htr (own := own) (cls := cls) (names := names) (ic := ic) hown' hcls hnames h (fun x hx => nomatch hx) hfX hkX hcellA (by rw [hhp, hT]; exact Nat.le_refl _) (msg := .ref sa) rfl
    (g := { method := m, pc := pc + 6, locals := ls, stack := .ref sa :: .ref T.heap.size :: .ref T.heap.size :: rest, locked := none }) rfl hsize rfl rfl (rest := rest) rfl
    (by rw [hb]; exact d6) (by rw [hb]; exact d9) hout hRframes (by simp only [List.map_cons, List.sum_cons, hcat]; omega) hlocks
  obtain ⟨f1, f2⟩ := vx_frame hsame
  rw [hhp] at f1 f2
  have hWs : s.WarmedH U.vm := State.WarmedH.trans hW0 hW
  have hcl : s.vm.findClass cls = some ce.cls := by
    have h9 := hO.cls
    rw [hvm] at h9
    exact h9
  have hall : s.sameButNew ({ U with vm := s.vm } : State) locs mc ms := by
    subst hA
    obtain ⟨e1, e2⟩ := hsame
    rw [State.setFrames_setFrames] at e1
    have h2 : (T.setVm s.vm).sameButNew ({ U with vm := s.vm } : State) [] (0 + 1) (0 + 6) := ⟨e1, e2⟩
    have h3 := X.same.trans h2
    rw [List.append_nil] at h3
    exact h3.mono hc hs
  refine ⟨U, ?_, .threw T.heap.size, hrun, hend, Or.inr ⟨T.heap.size, rfl, cls, ce, locs, hx U hWs.alike f1 (fun q hq => f2 q hq (fun z hz => nomatch hz)), hce, hO.vm, hcl, hWs, hall, hf⟩⟩
  refine st1 _ ?_
  show Steps p.tables e below (T1.setTop { method := m, pc := pc + 3, locals := ls, stack := .ref T.heap.size :: rest, locked := none }) _
  jvm_step X₁.here [X₁.here.top, hexec, d3', Value.category]
  exact X₁.ldcString hexec (own := own) (text := text) (index := is) (a := sa) hown' hstr'.1 hstr'.2
    (g := { method := m, pc := pc + 4, locals := ls, stack := .ref T.heap.size :: .ref T.heap.size :: rest, locked := none }) rfl d4' _ hsteps
/-- 'throw new E("text")', the text by a wide index -/
theorem vx_throwSW {cc : ByteArray} {pc : Nat} (hexec : p.tables.exec = Jvm.exec) (hb : c.code = cc) (hl : l.stackTraces = false) {own cls text : String} {names : List String} {ik is ic mc ms sa : Nat} {A : Nat → Prop}
    (hown : s.vm.findClass own = some m.cls) (hcls : Bundle.fit cls = true) (hnames : ∀ n ∈ names, Bundle.fit n = true)
    (hk : (Cond.classLink own ik cls).before args s = true) (hini : (Cond.initialized cls).before args s = true) (hstr : vk_R own is text sa s) (hat : ∀ w ∈ vx_atS own ic cls names, w.before args s = true)
    (hgood : ∀ w ∈ Cond.classLink own ik cls :: Cond.initialized cls :: vx_atS own ic cls names, vx_ot w = true)
    (hU : vx_Zq Bundle.tN "UNASSIGNED_STACK" Bundle.steD A s s.heap) (hN : vx_Zq Bundle.tN "SUPPRESSED_SENTINEL" Bundle.listD A s s.heap) (hS : va_S A s.heap H locs) (hsize : ls.size = c.maxLocals)
    (d0 : decode cc pc = .ok (.new ik, 3)) (d3 : decode cc (pc + 3) = .ok (.dup, 1)) (d4 : decode cc (pc + 4) = .ok (.ldc_w is, 3)) (d7 : decode cc (pc + 7) = .ok (.invokespecial ic, 3)) (d10 : decode cc (pc + 10) = .ok (.athrow, 1))
    (hout : ∀ x ∈ c.exceptionTable.toList, covers x (pc + 10) = false)
    (hRframes : names.length + 3 < R.frames) (hRlocals : (rest.map fun v => v.category).sum + (13 * (names.length + 1) + 43) ≤ R.locals) (hRcells : cells + 1 ≤ R.cells) (hRslots : slots + 6 ≤ R.slots) (hlocks : meth.locks = false)
    (hx : ∀ t : State, s.vm.Alike t.vm → H.size ≤ t.heap.size → (∀ q : Nat, q < H.size → t.heap[q]? = H[q]?) → XC cls s t)
    (hf : ∀ z ∈ locs, free z.base) (hc : cells + 1 ≤ mc) (hs : slots + 6 ≤ ms) :
    W p l e R s m args below meth c H locs cells slots (vx_MQ below Qc XC args s mc ms free) (F0 m pc ls rest) := by
  intro T hT X
  have htr : e.platform.stackTraces = false := (show e.platform.stackTraces = l.stackTraces by rw [X.admits.platform]).trans hl
  have Y := vx_rebase X (R' := { frames := R.frames, locals := R.locals, cells := 1, slots := 6 }) (Nat.le_refl _) (Nat.le_refl _) hRcells hRslots
  obtain ⟨s', hA⟩ : ∃ z, z = (T.setVm s.vm).setFrames (.invoking m args :: below) := ⟨_, rfl⟩
  rw [← hA] at Y
  have hvm : s'.vm = s.vm := by rw [hA]; rfl
  have hhp : s'.heap = H := by rw [hA]; exact hT
  have hW0 : s.WarmedH s'.vm := by rw [hvm]; exact State.WarmedH.refl s
  have hat' : ∀ w ∈ vx_atS own ic cls names, w.before args s' = true := fun w hw => vx_ot_at hW0 hvm.symm (hgood w (List.mem_cons_of_mem _ (List.mem_cons_of_mem _ hw))) (hat w hw)
  have hk' : (Cond.classLink own ik cls).before args s' = true := vx_ot_at hW0 hvm.symm (hgood _ List.mem_cons_self) hk
  have hini' : (Cond.initialized cls).before args s' = true := vx_ot_at hW0 hvm.symm (hgood _ (List.mem_cons_of_mem _ List.mem_cons_self)) hini
  have hU' : vx_Zq Bundle.tN "UNASSIGNED_STACK" Bundle.steD A s' s'.heap := by rw [hhp]; exact vx_Zq.moved hW0.alike (hU.kept hS.2.1)
  have hN' : vx_Zq Bundle.tN "SUPPRESSED_SENTINEL" Bundle.listD A s' s'.heap := by rw [hhp]; exact vx_Zq.moved hW0.alike (hN.kept hS.2.1)
  have h : ∀ w ∈ Bundle.ownAtoms own ic cls names, w.before args s' = true := vx_own hat' (vx_isRefq hU'.1) (vx_isRefq hN'.1) hU'.2.word hN'.2.word
  have hown' : s'.vm.findClass own = some m.cls := by rw [hvm]; exact hown
  have hins : (Cond.instantiable cls 6).before args s' = true := h _ (by simp [Bundle.ownAtoms])
  obtain ⟨vm₁, cX, kX, hfX, hkX, -, -, X₁, st1⟩ := Y.newCold hexec (own := own) (C := cls) (index := ik) (n := 6) hown' hk' hins hini'
    (g := F0 m pc ls rest) rfl (by rw [hb]; exact d0) (Nat.le_refl _) (Nat.le_refl _)
  generalize hT1 : (T.setVm vm₁).pushCell { cls := cX, slots := kX.instanceTypes.map defaultValue, vm := .none } = T1 at X₁ st1
  have hcat : (Value.ref T.heap.size).category = 1 := rfl
  have hcellA : T1.heap[T.heap.size]? = some (freshCell cX kX) := by rw [← hT1]; exact State.heap_pushCell_size _ _
  have d3' : decode c.code (pc + 3) = .ok (.dup, 1) := by rw [hb]; exact d3
  have d4' : decode c.code (pc + 4) = .ok (.ldc_w is, 3) := by rw [hb]; exact d4
  have hstr' : vk_R own is text sa s' := vk_R.warm hW0 hstr
  obtain ⟨U, hsteps, hrun, hend, hW, hsame, ce, hce, hO⟩ := X₁.ctorThrowS hexec htr (own := own) (cls := cls) (names := names) (ic := ic) hown' hcls hnames h (fun x hx => nomatch hx) hfX hkX hcellA (by rw [hhp, hT]; exact Nat.le_refl _) (msg := .ref sa) rfl
    (g := { method := m, pc := pc + 7, locals := ls, stack := .ref sa :: .ref T.heap.size :: .ref T.heap.size :: rest, locked := none }) rfl hsize rfl rfl (rest := rest) rfl
    (by rw [hb]; exact d7) (by rw [hb]; exact d10) hout hRframes (by simp only [List.map_cons, List.sum_cons, hcat]; omega) hlocks
  obtain ⟨f1, f2⟩ := vx_frame hsame
  rw [hhp] at f1 f2
  have hWs : s.WarmedH U.vm := State.WarmedH.trans hW0 hW
  have hcl : s.vm.findClass cls = some ce.cls := by
    have h9 := hO.cls
    rw [hvm] at h9
    exact h9
  have hall : s.sameButNew ({ U with vm := s.vm } : State) locs mc ms := by
    subst hA
    obtain ⟨e1, e2⟩ := hsame
    rw [State.setFrames_setFrames] at e1
    have h2 : (T.setVm s.vm).sameButNew ({ U with vm := s.vm } : State) [] (0 + 1) (0 + 6) := ⟨e1, e2⟩
    have h3 := X.same.trans h2
    rw [List.append_nil] at h3
    exact h3.mono hc hs
  refine ⟨U, ?_, .threw T.heap.size, hrun, hend, Or.inr ⟨T.heap.size, rfl, cls, ce, locs, hx U hWs.alike f1 (fun q hq => f2 q hq (fun z hz => nomatch hz)), hce, hO.vm, hcl, hWs, hall, hf⟩⟩
  refine st1 _ ?_
  show Steps p.tables e below (T1.setTop { method := m, pc := pc + 3, locals := ls, stack := .ref T.heap.size :: rest, locked := none }) _
  jvm_step X₁.here [X₁.here.top, hexec, d3', Value.category]
  exact X₁.ldcStringW hexec (own := own) (text := text) (index := is) (a := sa) hown' hstr'.1 hstr'.2
    (g := { method := m, pc := pc + 4, locals := ls, stack := .ref T.heap.size :: .ref T.heap.size :: rest, locked := none }) rfl d4' _ hsteps
end Ends
section Bodies
variable {l : Launch}
theorem vx_ofW {y : MethodName} {ws ws' : List Cond} {rm : Room} {Pc : Array Value → State → Prop} {Qc : Array Value → State → Outcome → State → Prop} {XC : String → State → State → Prop} {mc ms : Nat} {free : Addr → Prop} {cc : ByteArray} {maxL : Nat} {ret : Option FieldType}
    (hy : plainName y.cls = true) (hw : ws = Cond.code y cc maxL ret :: ws')
    (body : ∀ p e s m args below meth c s₁, BodyLoose p l y (headSpec ws rm) cc maxL ret e s m args below meth c s₁ → c.maxLocals = maxL → (∀ x ∈ c.exceptionTable.toList, False) → Pc args s →
      W p l e (headSpec ws rm).room s m args below meth c s.heap [] 0 0 (vx_MQ below Qc XC args s mc ms free) (entryFrame m args maxL)) : vx_Met l y ws rm Pc Qc XC mc ms free := by
  refine MetFree.of_bodyS (code := cc) (maxLocals := maxL) (ret := ret) hy ?_ ?_
  · intro args s m h hn
    obtain ⟨meth, c, h1, h2, h3, h4, h5, h6, -, -⟩ := Cond.code_spec hn (atoms_spec (ws := ws) h _ (by rw [hw]; exact List.mem_cons_self))
    exact ⟨meth, c, h1, h2, h3, h4, h5, h6⟩
  · intro p e s m args below meth c s₁ B hml hP _
    have hh0 : s₁.heap = s.heap := by rw [B.state]; rfl
    have ht : ∀ x ∈ c.exceptionTable.toList, False := by
      obtain ⟨meth9, c9, h1, h2, -, -, -, -, h7, -⟩ := Cond.code_spec B.named (atoms_spec (ws := ws) B.pre _ (by rw [hw]; exact List.mem_cons_self))
      cases Option.some.inj (h1.symm.trans B.method)
      cases Option.some.inj (h2.symm.trans (Stand.of_body B).code)
      intro x hx
      rw [Array.isEmpty_iff.mp h7] at hx
      cases hx
    obtain ⟨t, a1, o, b1, b2, b3⟩ := body p e s m args below meth c s₁ B hml ht hP s₁ hh0 (Stand.of_body B)
    exact ⟨t, o, a1, b1, b2, b3⟩
/-- the table of a body with handlers -/
theorem vx_table {p : Program} {x y : MethodName} {S : Spec} {cc bytes : ByteArray} {maxL maxL' : Nat} {ret ret' : Option FieldType} {e : Env} {s s₁ : State} {m : MethodId} {args : Array Value} {below : List Frame} {meth : Method} {c : Code} {hh : List (Nat × Nat × Nat × Nat)}
    (B : BodyLoose p l y S cc maxL ret e s m args below meth c s₁) (h : (Cond.codeWith y bytes maxL' ret' hh).before args s = true) : c.exceptionTable.toList = tableOf hh := by
  obtain ⟨m9, meth9, c9, hn9, h1, h2, -, -, h6, -⟩ := Cond.codeWith_spec h
  cases Option.some.inj (hn9.symm.trans B.named)
  cases Option.some.inj (h1.symm.trans B.method)
  cases Option.some.inj (h2.symm.trans (Stand.of_body B).code)
  rw [← h6, table_eq]
end Bodies
end VXA
/-! ===== END ===== -/
/-! ===== BEGIN a static call of a method with an exception table ===== -/
section VXS
variable {p : Program} {l : Launch} {e : Env} {R : Room} {s : State} {m : MethodId} {args : Array Value} {below : List Frame} {meth : Method} {c : Code} {T : State} {H : Heap} {locs : List Loc} {cells slots : Nat}
abbrev vx_CSW (R : Room) (s : State) (args : Array Value) (own : String) (index : Nat) (y : MethodName) (bytes : ByteArray) (maxL : Nat) (ret : Option FieldType) (hh : List (Nat × Nat × Nat × Nat)) (ws : List Cond) (rm : Room) (mc ms n : Nat) : Prop :=
  (rm.cells = mc ∧ rm.slots = ms ∧ rm.frames + 1 ≤ R.frames ∧ 8 + (maxL + 11) + rm.locals ≤ R.locals ∧ (∀ w ∈ ws, ∀ (a' : Array Value) (U : State), s.WarmedH U.vm → w.before a' U = true) ∧ Cond.codeWith y bytes maxL ret hh ∈ ws) ∧
  (Cond.codeWith y bytes maxL ret hh).before args s = true ∧ (Cond.initialized y.cls).before args s = true ∧ (y.cls ≠ "java/lang/invoke/MethodHandle" ∧ y.cls ≠ "java/lang/invoke/VarHandle") ∧
  (∀ sig, parseMethodDescriptor y.desc = some sig → n = sig.parameters.length) ∧ (Cond.methodLink own index y).before args s = true ∧ (Cond.static y).before args s = true
theorem vx_cwSW {own : String} {index maxL mc ms : Nat} {y : MethodName} {bytes : ByteArray} {ret : Option FieldType} {hh : List (Nat × Nat × Nat × Nat)} {Ts ws ws' : List Cond} {rm : Room} (n : Nat) (ht : ∀ w ∈ Ts, w.before args s = true) (hT : GoodIn Ts (va_wsS own index y ws)) (hw : ws = Cond.codeWith y bytes maxL ret hh :: ws') (hrc : rm.cells = mc) (hrs : rm.slots = ms)
    (hd : y.cls ≠ "java/lang/invoke/MethodHandle" ∧ y.cls ≠ "java/lang/invoke/VarHandle" ∧ (parseMethodDescriptor y.desc).map (fun d => d.parameters.length) = some n) (hR : rm.frames + 1 ≤ R.frames ∧ 8 + (maxL + 11) + rm.locals ≤ R.locals) :
    vx_CSW R s args own index y bytes maxL ret hh ws rm mc ms n := by
  have ok : ∀ w ∈ va_wsS own index y ws, w.before args s = true := fun w h => ht w (hT w h).1
  have hG : GoodIn Ts ws := fun w h => hT w (by unfold va_wsS; exact List.mem_append_right _ h)
  have hc : Cond.codeWith y bytes maxL ret hh ∈ ws := by rw [hw]; exact List.mem_cons_self
  refine ⟨⟨hrc, hrs, hR.1, hR.2, pay_in ht hG, hc⟩, ht _ (hG _ hc).1, ok _ (by simp [va_wsS]), ⟨hd.1, hd.2.1⟩, fun sig h => ?_, ok _ (by simp [va_wsS]), ok _ (by simp [va_wsS])⟩
  have h2 := hd.2.2
  rw [h] at h2
  exact (Option.some.inj h2).symm
theorem vx_callSW (X : Stand p l e R s m args below meth c T locs cells slots) (hexec : p.tables.exec = Jvm.exec) {own : String} {index : Nat} {y : MethodName} {bytes : ByteArray} {maxL : Nat} {ret : Option FieldType} {hh : List (Nat × Nat × Nat × Nat)}
    (hown : s.vm.findClass own = some m.cls) (hlink : (Cond.methodLink own index y).before args s = true) (hstat : (Cond.static y).before args s = true) (hinit : (Cond.initialized y.cls).before args s = true)
    (hcode : (Cond.codeWith y bytes maxL ret hh).before args s = true) (hy : y.cls ≠ "java/lang/invoke/MethodHandle" ∧ y.cls ≠ "java/lang/invoke/VarHandle")
    {W9 : Nat} {Pre : Pt → Array Value → Prop} {Post : Pt → Array Value → Option Value → Pt → Prop} (hK : Back l R p e below s args y 3 W9 Pre Post)
    {g : JFrame} (hg : g.method = m) (hsize : g.locals.size = c.maxLocals) {argsL rest : List Value} (hlen : ∀ sig, parseMethodDescriptor y.desc = some sig → argsL.length = sig.parameters.length)
    (hstack : g.stack = argsL.reverse ++ rest) (hW : 2 * g.monitorRoom + (rest.map fun v => v.category).sum ≤ W9) (hdg : decode c.code g.pc = .ok (.invokestatic index, 3))
    (hpre : ∀ vm₁, s.WarmedH vm₁ → Pre ⟨T.setVm vm₁, locs, cells, slots⟩ argsL.toArray) :
    ∃ (v : Option Value) (vm₁ : Vm) (B : Pt), s.WarmedH vm₁ ∧ Stand p l e R s m args below meth c B.U B.locs B.cells B.slots ∧ Post ⟨T.setVm vm₁, locs, cells, slots⟩ argsL.toArray v B ∧
      ∀ target, Steps p.tables e below (B.U.setTop { g with pc := g.pc + 3, stack := v.toList ++ rest }) target → Steps p.tables e below (T.setTop g) target := by
  obtain ⟨mk, methM, cM, hnamed, hmethM, -, -, -, -, -, -, hsigM⟩ := Cond.codeWith_spec hcode
  have hstatic : methM.isStatic = true := Cond.static_spec hnamed hmethM hstat
  obtain ⟨kP, hkP, -⟩ := className_of_methodNamed hnamed
  have hinitP : kP.init = .initialized := Cond.initialized_spec (findClass_of_methodNamed hnamed) hkP hinit
  obtain ⟨vm₁, X₁, hstep₁⟩ := X.invokestatic hexec hown hlink hnamed hmethM hstatic hkP hinitP hy (g := g) hg (argsL := argsL) (rest := rest) (hlen _ hsigM) hstack hdg
  obtain ⟨v, B, X', hpost, hsteps⟩ := hK m meth c ⟨T.setVm vm₁, locs, cells, slots⟩ { g with stack := rest } (.invokestatic index) mk argsL.toArray X₁ hg hsize hdg hW (X₁.named hnamed) (hpre vm₁ X₁.warmed)
  exact ⟨v, vm₁, B, X₁.warmed, X', hpost, fun target h => hstep₁ _ fun acts => by rw [doInvoke_state]; exact hsteps.trans h⟩
theorem vx_runSW {y : MethodName} {bytes cc : ByteArray} {maxL nL mc ms n index : Nat} {ret : Option FieldType} {hh : List (Nat × Nat × Nat × Nat)} {ws : List Cond} {rm : Room} {Pc : Array Value → State → Prop} {Qc : Array Value → State → Outcome → State → Prop} {free : Addr → Prop} {Ts : List Cond} {own : String} {As rest : List Value} {g : JFrame}
    (S : CallFix p m c cc nL s args Ts own) (hM : Met l y ws rm Pc Qc mc ms free) (cw : vx_CSW R s args own index y bytes maxL ret hh ws rm mc ms n) (hp : PreS s H Pc As)
    (hg : g.method = m) (hn : As.length = n) (hsize : g.locals.size = nL) (hstack : g.stack = As.reverse ++ rest) (hW : 2 * g.monitorRoom + (rest.map fun v => v.category).sum ≤ 8) (hdg : decode cc g.pc = .ok (.invokestatic index, 3)) (hf : cells + mc ≤ R.cells ∧ slots + ms ≤ R.slots) :
    va_Run p l e R s m args below meth c H locs cells slots mc ms g rest (Qc As.toArray) (free) := by
  obtain ⟨⟨hrc, hrs, hfr, hlo, hws, hcw⟩, hcode, hini, hy, hlen, hl, hstt⟩ := cw
  have hK : Back l R p e below s args y 3 8 (PreOf R mc ms Pc) (PostOf Qc mc ms free) := va_backW (hh := hh) (bytes := bytes) (maxL := maxL) (ret := ret) hM hp.1 hrc hrs hfr hlo hws hcw (fun a' U hW => word_at hW (Or.inl (by first | rfl | simp [Cond.onTables, Cond.keeps, Cond.steady])) hini)
  obtain ⟨hx, hb, hml, ho, -⟩ := S
  intro T hT X
  obtain ⟨v, vm₁, ⟨U', l2, c2, s2⟩, hW₁, X', ⟨g', mk, t, L, e1, e2, hq, h1, hL, h2, h3⟩, st⟩ := vx_callSW X hx (hh := hh) (bytes := bytes) (maxL := maxL) (ret := ret) ho hl hstt hini hcode hy hK hg (hsize.trans hml.symm) (argsL := As) (rest := rest) (fun sig h => hn.trans (hlen sig h)) hstack hW (by rw [hb]; exact hdg)
    (fun vm₁ hW₁ => ⟨hf.1, hf.2, hp.2 (T.setVm vm₁) hT hW₁⟩)
  dsimp only [Pt.U, Pt.locs, Pt.cells, Pt.slots] at X' e1 e2 h1 h2 h3 st
  subst h1; subst h2; subst h3
  exact ⟨v, (T.setVm vm₁).calling g' mk As.toArray, t, U', L, hT, X', hL, e1, e2, hq, st⟩
/-- not caught here, past rows that name other classes: it goes on to the caller -/
theorem vx_outP {p : Program} {l : Launch} {e : Env} {R : Room} {s : State} {m : MethodId} {args : Array Value} {below : List Frame} {meth : Method} {c : Code} {H : Heap} {locs : List Loc} {cells slots : Nat} {free : Addr → Prop} {ls : Array Slot} {rest : List Value} {Qc : Array Value → State → Outcome → State → Prop} {XC : String → State → State → Prop}
    {pc : Nat} {own E : String} {ce : Cell} {q : Addr} {mc ms : Nat} (hown : s.vm.findClass own = some m.cls) (hlocks : meth.locks = false)
    (hpass : ∀ z ∈ c.exceptionTable.toList, covers z pc = false ∨ (z.catchType ≠ 0 ∧ ∃ nm : String, (Cond.classLink own z.catchType nm).before args s = true ∧ va_Nc E nm s)) (hcell : H[q]? = some ce) (hv : ce.vm = .none) (hcl : s.vm.findClass E = some ce.cls)
    (hx : ∀ t : State, t.heap = H → s.vm.Alike t.vm → XC E s t) (hf : ∀ z ∈ locs, free z.base) (hc : cells ≤ mc) (hs : slots ≤ ms) :
    vx_W p l e R s m args below meth c H locs cells slots (vx_MQ below Qc XC args s mc ms free) (F0 m pc ls rest) q := by
  intro T hT X
  have hpl : e.platform.magicAccessors = ({} : Platform).magicAccessors := by rw [X.admits.platform]
  obtain ⟨vm', hW', X', st⟩ := X.outThrough hlocks q (g := F0 m pc ls rest) rfl rfl rfl (cell := ce) (by rw [hT]; exact hcell) (by rw [hv]; rfl)
    (by obtain ⟨k9, h9, -⟩ := Vm.findClass_spec hcl; exact ⟨k9, h9⟩) (fun z hz => by
      rcases hpass z hz with h | ⟨hz0, nm, hl1, hn1⟩
      · exact Or.inl h
      · obtain ⟨c6, hc6, hcl6⟩ := Cond.classLink_spec hown hl1 e.platform hpl
        obtain ⟨a8, b8, h1, h2, h3⟩ := hn1
        cases Option.some.inj (h1.symm.trans hcl)
        cases Option.some.inj (h2.symm.trans hc6)
        exact Or.inr ⟨hz0, _, hcl6, h3⟩)
  obtain ⟨g₀, hfr⟩ := X'.frames_eq
  have hcell9 : ((T.setVm vm').setFrames (.throwing q :: below)).heap[q]? = some ce := by
    show T.heap[q]? = some ce
    rw [hT]; exact hcell
  have hend : Ended ((T.setVm vm').setFrames (.throwing q :: below)) below (.threw q) := State.frames_setFrames _ (State.cur_lt_of_frames hfr)
  refine ⟨(T.setVm vm').setFrames (.throwing q :: below), ?_, .threw q, X'.here.running, hend, Or.inr ⟨q, rfl, E, ce, locs, hx _ hT (X'.ends _).1.alike, hcell9, hv, hcl, (X'.ends _).1, (X'.ends _).2.mono hc hs, hf⟩⟩
  rw [X.pushThrowing_eq]
  exact st
/-- a thing of a world lies in the heap -/
theorem vx_lt {D : va_G} {cl : List vw_C} {ws : va_W} {H1 : Heap} (h : va_P D cl ws H1) {k : Nat} {q : Nat × va_E} (hk : ws[k]? = some q) : q.1 < H1.size := (h k q hk).lt
end VXS
/-! ===== END ===== -/
/-! ===== BEGIN methods with a table of their own: called by a name, returning or throwing ===== -/
section VXH
/-! vx_backW, vx_callVX, vx_callSX, vx_callVW, vx_runVW, vx_runVX, vx_runSX, vx_ofWH follow the same proofs as their sisters above (Free/Laws.lean, Shelf42/LK1.lean); vx_outP calls Shelf42/NT130.lean (outThrough). -/
section
variable {l : Launch} {R : Room} {p : Program} {e : Env} {below : List Frame} {s : State} {sargs : Array Value} {y : MethodName} {len W9 : Nat}
theorem vx_backW {ws : List Cond} {rm : Room} {Pc : Array Value → State → Prop} {Qc : Array Value → State → Outcome → State → Prop} {XC : String → State → State → Prop} {mc ms : Nat} {free : Addr → Prop} {bytes : ByteArray} {maxL : Nat} {ret : Option FieldType} {hh : List (Nat × Nat × Nat × Nat)}
    (hM : vx_Met l y ws rm Pc Qc XC mc ms free) (hblind : FrameBlind Pc) (hrc : rm.cells = mc) (hrs : rm.slots = ms)
    (hframes : rm.frames + 1 ≤ R.frames) (hlocals : W9 + (maxL + 11) + rm.locals ≤ R.locals)
    (hws : ∀ w ∈ ws, ∀ a' U, s.WarmedH U.vm → w.before a' U = true) (hcode : Cond.codeWith y bytes maxL ret hh ∈ ws) (hinit : ∀ a' U, s.WarmedH U.vm → (Cond.initialized y.cls).before a' U = true) :
    vx_Back l R p e below s sargs y len W9 (PreOf R mc ms Pc) (PostOf Qc mc ms free) (vx_Post XC mc ms free) := by
  intro m meth c A g ig mk a X hg hsize hdg hW hn hp
  have h1 : (headSpec ws rm).pre.before a A.U = true := atoms_intro fun w hw => hws w hw _ _ X.warmed
  have h2 : (Cond.codeWith y bytes maxL ret hh).before a A.U = true := hws _ hcode _ _ X.warmed
  have h3 : (Cond.initialized y.cls).before a A.U = true := hinit _ _ X.warmed
  have h4 : A.cells + (headSpec ws rm).room.cells ≤ R.cells := by rw [show (headSpec ws rm).room.cells = mc from hrc]; exact hp.1
  have h5 : A.slots + (headSpec ws rm).room.slots ≤ R.slots := by rw [show (headSpec ws rm).room.slots = ms from hrs]; exact hp.2.1
  have hPc : Pc a (A.U.calling g mk a) := hblind _ _ _ _ hp.2.2
  obtain ⟨U, Ls, c0, s0⟩ := A
  dsimp only [Pt.U, Pt.locs, Pt.cells, Pt.slots] at h1 h2 h3 h4 h5 X hn hPc ⊢
  obtain ⟨m9, methY, cY, hn9, hmY, hcY, -, hlY, -⟩ := Cond.codeWith_spec h2
  cases Option.some.inj (hn9.symm.trans hn)
  obtain ⟨kY, hkY, -⟩ := className_of_methodNamed hn
  have hinitY : kY.init = .initialized := Cond.initialized_spec (findClass_of_methodNamed hn) hkY h3
  have h : At U g.method c below := by rw [hg]; exact X.here
  have hlocals9 : W9 + (maxL + 11) + (headSpec ws rm).room.locals ≤ R.locals := hlocals
  have happ : (headSpec ws rm).appliesLoose y e.platform (U.calling g mk a) = true :=
    Spec.appliesLoose_calling (g := g) h hdg hn hkY hinitY
      (X.room_calling (g := g) (R' := (headSpec ws rm).room) hsize hmY hcY hframes (by rw [hlY]; omega) h4 h5) h1
  obtain ⟨mid, hmid⟩ := h.above
  have hfr : (U.setTop g).frames = (.java g :: mid) ++ below := by rw [State.frames_setTop' g h.top, hmid]; rfl
  obtain ⟨o, s₂, hsteps, -, hend, hq⟩ := Steps.callFree hM p X.admits X.cas X.clock (acts := []) hfr happ hPc trivial
  have hq' : vx_Q Qc XC mc ms free a (U.calling g mk a) o s₂ := hq
  rw [State.frames_setTop' g h.top] at hend
  obtain ⟨g₀, hg0⟩ := Option.isSome_iff_exists.mp h.top
  obtain ⟨r, hr⟩ := State.topJava?_eq_some.mp hg0
  have hr' : (({ U with heap := s₂.heap, slotsUsed := s₂.slotsUsed } : State).setVm s₂.vm).frames = .java g₀ :: r := hr
  rcases hq' with ⟨hqc, L, hfe, hL⟩ | ⟨q, rfl, E, ce, L, hx, hce, hcv, hcl, hW₂, hsm, hL⟩
  · obtain ⟨⟨v, rfl⟩, hW₂, e2, q2, q3, q4, q5, q6⟩ := id hfe
    have e3 : s₂ = ({ (U.calling g mk a).setFrames s₂.frames with heap := s₂.heap, slotsUsed := s₂.slotsUsed } : State).setVm s₂.vm := by
      have : s₂ = ({ s₂ with vm := (U.calling g mk a).vm } : State).setVm s₂.vm := rfl
      rw [e2] at this
      exact this
    obtain ⟨c₂, i₂, len₂, hc₂, hd₂, hf₂⟩ := hend
    have hW' : U.WarmedH s₂.vm := hW₂
    have hcc : c₂ = c := by
      have h1 : s₂.code? g.method = U.code? g.method := by
        rw [State.code?_eq, State.code?_eq, hW'.alike.method?]
      exact Option.some.inj (hc₂.symm.trans (h1.trans h.code))
    subst hcc
    have hlen : len₂ = len := by rw [hdg] at hd₂; cases hd₂; rfl
    subst hlen
    have hs₂ : s₂ = (({ U with heap := s₂.heap, slotsUsed := s₂.slotsUsed } : State).setVm s₂.vm).setTop { g with pc := g.pc + len₂, stack := v.toList ++ g.stack } := by
      refine e3.trans ?_
      rw [hf₂, State.calling_eq h.top, State.setFrames_setFrames, State.setTop_of_frames _ hr', hr]
      rfl
    have hsame : U.sameButNew ({ U with heap := s₂.heap, slotsUsed := s₂.slotsUsed } : State) L mc ms := by
      refine ⟨?_, q2, q3, q4, q5, q6⟩
      obtain ⟨t, ht, -⟩ := State.frames_cons hr
      show ({ U with heap := s₂.heap, slotsUsed := s₂.slotsUsed } : State) = { U.setFrames U.frames with heap := s₂.heap, slotsUsed := s₂.slotsUsed }
      rw [State.setFrames_self ht]
    subst hg
    refine Or.inl ⟨v, ⟨(({ U with heap := s₂.heap, slotsUsed := s₂.slotsUsed } : State).setVm s₂.vm), Ls ++ L, c0 + mc, s0 + ms⟩,
      ⟨X.admits, X.cas, X.clock, X.frames, X.room, X.hears, X.method, X.code, (X.here.setHeapUsed s₂.heap s₂.slotsUsed).setVm hW'.alike, X.tail, State.WarmedH.trans X.warmed hW', X.limits, X.bytes, X.same.trans (hsame.setVm s.vm)⟩,
      ⟨g, mk, s₂, L, rfl, rfl, hqc, rfl, hL, rfl, rfl⟩, ?_⟩
    show Steps p.tables e below _ ((({ U with heap := s₂.heap, slotsUsed := s₂.slotsUsed } : State).setVm s₂.vm).setTop { g with pc := g.pc + len₂, stack := v.toList ++ g.stack })
    rw [← hs₂]
    exact hsteps
  · obtain ⟨e2, q2, q3, q4, q5, q6⟩ := id hsm
    have e3 : s₂ = ({ (U.calling g mk a).setFrames s₂.frames with heap := s₂.heap, slotsUsed := s₂.slotsUsed } : State).setVm s₂.vm := by
      have : s₂ = ({ s₂ with vm := (U.calling g mk a).vm } : State).setVm s₂.vm := rfl
      rw [e2] at this
      exact this
    have hf₂ : s₂.frames = .throwing q :: .java g :: U.frames.tail := hend
    have hW' : U.WarmedH s₂.vm := hW₂
    have hs₂ : s₂ = ((({ U with heap := s₂.heap, slotsUsed := s₂.slotsUsed } : State).setVm s₂.vm).setTop g).pushFrame (.throwing q) := by
      refine e3.trans ?_
      rw [hf₂, State.calling_eq h.top, State.setFrames_setFrames, State.pushFrame, State.frames_setTop _ hr', State.setTop_of_frames _ hr', State.setFrames_setFrames, hr]
      rfl
    have hsame : U.sameButNew ({ U with heap := s₂.heap, slotsUsed := s₂.slotsUsed } : State) L mc ms := by
      refine ⟨?_, q2, q3, q4, q5, q6⟩
      obtain ⟨t, ht, -⟩ := State.frames_cons hr
      show ({ U with heap := s₂.heap, slotsUsed := s₂.slotsUsed } : State) = { U.setFrames U.frames with heap := s₂.heap, slotsUsed := s₂.slotsUsed }
      rw [State.setFrames_self ht]
    subst hg
    refine Or.inr ⟨q, ⟨(({ U with heap := s₂.heap, slotsUsed := s₂.slotsUsed } : State).setVm s₂.vm), Ls ++ L, c0 + mc, s0 + ms⟩,
      ⟨X.admits, X.cas, X.clock, X.frames, X.room, X.hears, X.method, X.code, (X.here.setHeapUsed s₂.heap s₂.slotsUsed).setVm hW'.alike, X.tail, State.WarmedH.trans X.warmed hW', X.limits, X.bytes, X.same.trans (hsame.setVm s.vm)⟩,
      ⟨g, mk, s₂, L, E, ce, rfl, rfl, hx, hce, hcv, hcl, rfl, hL, rfl, rfl⟩, ?_⟩
    show Steps p.tables e below _ (((({ U with heap := s₂.heap, slotsUsed := s₂.slotsUsed } : State).setVm s₂.vm).setTop g).pushFrame (.throwing q))
    rw [← hs₂]
    exact hsteps
end
variable {p : Program} {l : Launch} {e : Env} {R : Room} {s : State} {m : MethodId} {args : Array Value} {below : List Frame} {meth : Method} {c : Code} {T : State} {H : Heap} {locs : List Loc} {cells slots : Nat}
theorem vx_callVX (X : Stand p l e R s m args below meth c T locs cells slots) (hexec : p.tables.exec = Jvm.exec) {own C : String} {index : Nat} {y : MethodName} {bytes : ByteArray} {maxL : Nat} {ret : Option FieldType} {hh : List (Nat × Nat × Nat × Nat)}
    (hown : s.vm.findClass own = some m.cls) (hlink : (Cond.methodLink own index y).before args s = true) (hinst : (Cond.instanceMethod y).before args s = true) (hsel : (Cond.selects C y y).before args s = true)
    (hcode : (Cond.codeWith y bytes maxL ret hh).before args s = true) (hy : y.cls ≠ "java/lang/invoke/MethodHandle" ∧ y.cls ≠ "java/lang/invoke/VarHandle")
    {W9 : Nat} {Pre : Pt → Array Value → Prop} {Post : Pt → Array Value → Option Value → Pt → Prop} {PostX : Pt → Array Value → Addr → Pt → Prop} (hK : vx_Back l R p e below s args y 3 W9 Pre Post PostX)
    {b : Addr} {cellB : Cell} (hcell : T.heap[b]? = some cellB) (hobj : cellB.vm.isStatics = false) (hcls : s.vm.findClass C = some cellB.cls)
    {g : JFrame} (hg : g.method = m) (hsize : g.locals.size = c.maxLocals) {argsL rest : List Value} (hlen : ∀ sig, parseMethodDescriptor y.desc = some sig → argsL.length = sig.parameters.length)
    (hstack : g.stack = argsL.reverse ++ .ref b :: rest) (hW : 2 * g.monitorRoom + (rest.map fun v => v.category).sum ≤ W9) (hdg : decode c.code g.pc = .ok (.invokevirtual index, 3))
    (hpre : ∀ vm₁, s.WarmedH vm₁ → Pre ⟨T.setVm vm₁, locs, cells, slots⟩ (Value.ref b :: argsL).toArray) :
    (∃ (v : Option Value) (vm₁ : Vm) (B : Pt), s.WarmedH vm₁ ∧ Stand p l e R s m args below meth c B.U B.locs B.cells B.slots ∧ Post ⟨T.setVm vm₁, locs, cells, slots⟩ (Value.ref b :: argsL).toArray v B ∧
      ∀ target, Steps p.tables e below (B.U.setTop { g with pc := g.pc + 3, stack := v.toList ++ rest }) target → Steps p.tables e below (T.setTop g) target) ∨
    (∃ (q : Addr) (vm₁ : Vm) (B : Pt), s.WarmedH vm₁ ∧ Stand p l e R s m args below meth c B.U B.locs B.cells B.slots ∧ PostX ⟨T.setVm vm₁, locs, cells, slots⟩ (Value.ref b :: argsL).toArray q B ∧
      Steps p.tables e below (T.setTop g) ((B.U.setTop { g with stack := rest }).pushFrame (.throwing q))) := by
  obtain ⟨mk, methM, hnamed, hmethM, hstM, habM⟩ := Cond.instanceMethod_spec hinst
  obtain ⟨m8, methM', cM, hn8, hmethM', -, -, -, -, -, -, hsigM⟩ := Cond.codeWith_spec hcode
  cases Option.some.inj (hn8.symm.trans hnamed)
  cases hmethM.symm.trans hmethM'
  obtain ⟨c2, r2, m2, q1, q2, q3, q4, kP, hkP, hkPi⟩ := Cond.selects_spec hsel
  cases hcls.symm.trans q1
  cases (State.methodFound?_of_named hnamed hy).symm.trans q2
  cases hnamed.symm.trans q3
  have hselP : selectMethod e.platform s.vm cellB.cls mk = .method mk := by rw [Launch.admits_selectMethod X.admits]; exact q4
  obtain ⟨vm₁, X₁, hstep₁⟩ := X.invokevirtual hexec hown hlink hnamed hmethM hstM hkP hkPi hy (a := b) (cell := cellB) hcell
    (fun z h => by rw [h] at hobj; cases hobj) hselP hmethM habM hkP hkPi (g := g) hg (argsL := argsL) (rest := rest) (hlen _ hsigM) hstack hdg
  rcases hK m meth c ⟨T.setVm vm₁, locs, cells, slots⟩ { g with stack := rest } (.invokevirtual index) mk (Value.ref b :: argsL).toArray X₁ hg hsize hdg hW (X₁.named hnamed) (hpre vm₁ X₁.warmed) with ⟨v, B, X', hpost, hsteps⟩ | ⟨q, B, X', hpost, hsteps⟩
  · exact Or.inl ⟨v, vm₁, B, X₁.warmed, X', hpost, fun target h => hstep₁ _ fun acts => by rw [doInvoke_state]; exact hsteps.trans h⟩
  · exact Or.inr ⟨q, vm₁, B, X₁.warmed, X', hpost, hstep₁ _ fun acts => by rw [doInvoke_state]; exact hsteps⟩
theorem vx_callSX (X : Stand p l e R s m args below meth c T locs cells slots) (hexec : p.tables.exec = Jvm.exec) {own : String} {index : Nat} {y : MethodName} {bytes : ByteArray} {maxL : Nat} {ret : Option FieldType} {hh : List (Nat × Nat × Nat × Nat)}
    (hown : s.vm.findClass own = some m.cls) (hlink : (Cond.methodLink own index y).before args s = true) (hstat : (Cond.static y).before args s = true) (hinit : (Cond.initialized y.cls).before args s = true)
    (hcode : (Cond.codeWith y bytes maxL ret hh).before args s = true) (hy : y.cls ≠ "java/lang/invoke/MethodHandle" ∧ y.cls ≠ "java/lang/invoke/VarHandle")
    {W9 : Nat} {Pre : Pt → Array Value → Prop} {Post : Pt → Array Value → Option Value → Pt → Prop} {PostX : Pt → Array Value → Addr → Pt → Prop} (hK : vx_Back l R p e below s args y 3 W9 Pre Post PostX)
    {g : JFrame} (hg : g.method = m) (hsize : g.locals.size = c.maxLocals) {argsL rest : List Value} (hlen : ∀ sig, parseMethodDescriptor y.desc = some sig → argsL.length = sig.parameters.length)
    (hstack : g.stack = argsL.reverse ++ rest) (hW : 2 * g.monitorRoom + (rest.map fun v => v.category).sum ≤ W9) (hdg : decode c.code g.pc = .ok (.invokestatic index, 3))
    (hpre : ∀ vm₁, s.WarmedH vm₁ → Pre ⟨T.setVm vm₁, locs, cells, slots⟩ argsL.toArray) :
    (∃ (v : Option Value) (vm₁ : Vm) (B : Pt), s.WarmedH vm₁ ∧ Stand p l e R s m args below meth c B.U B.locs B.cells B.slots ∧ Post ⟨T.setVm vm₁, locs, cells, slots⟩ argsL.toArray v B ∧
      ∀ target, Steps p.tables e below (B.U.setTop { g with pc := g.pc + 3, stack := v.toList ++ rest }) target → Steps p.tables e below (T.setTop g) target) ∨
    (∃ (q : Addr) (vm₁ : Vm) (B : Pt), s.WarmedH vm₁ ∧ Stand p l e R s m args below meth c B.U B.locs B.cells B.slots ∧ PostX ⟨T.setVm vm₁, locs, cells, slots⟩ argsL.toArray q B ∧
      Steps p.tables e below (T.setTop g) ((B.U.setTop { g with stack := rest }).pushFrame (.throwing q))) := by
  obtain ⟨mk, methM, cM, hnamed, hmethM, -, -, -, -, -, -, hsigM⟩ := Cond.codeWith_spec hcode
  have hstatic : methM.isStatic = true := Cond.static_spec hnamed hmethM hstat
  obtain ⟨kP, hkP, -⟩ := className_of_methodNamed hnamed
  have hinitP : kP.init = .initialized := Cond.initialized_spec (findClass_of_methodNamed hnamed) hkP hinit
  obtain ⟨vm₁, X₁, hstep₁⟩ := X.invokestatic hexec hown hlink hnamed hmethM hstatic hkP hinitP hy (g := g) hg (argsL := argsL) (rest := rest) (hlen _ hsigM) hstack hdg
  rcases hK m meth c ⟨T.setVm vm₁, locs, cells, slots⟩ { g with stack := rest } (.invokestatic index) mk argsL.toArray X₁ hg hsize hdg hW (X₁.named hnamed) (hpre vm₁ X₁.warmed) with ⟨v, B, X', hpost, hsteps⟩ | ⟨q, B, X', hpost, hsteps⟩
  · exact Or.inl ⟨v, vm₁, B, X₁.warmed, X', hpost, fun target h => hstep₁ _ fun acts => by rw [doInvoke_state]; exact hsteps.trans h⟩
  · exact Or.inr ⟨q, vm₁, B, X₁.warmed, X', hpost, hstep₁ _ fun acts => by rw [doInvoke_state]; exact hsteps⟩
theorem vx_callVW (X : Stand p l e R s m args below meth c T locs cells slots) (hexec : p.tables.exec = Jvm.exec) {own C : String} {index : Nat} {y : MethodName} {bytes : ByteArray} {maxL : Nat} {ret : Option FieldType} {hh : List (Nat × Nat × Nat × Nat)}
    (hown : s.vm.findClass own = some m.cls) (hlink : (Cond.methodLink own index y).before args s = true) (hinst : (Cond.instanceMethod y).before args s = true) (hsel : (Cond.selects C y y).before args s = true)
    (hcode : (Cond.codeWith y bytes maxL ret hh).before args s = true) (hy : y.cls ≠ "java/lang/invoke/MethodHandle" ∧ y.cls ≠ "java/lang/invoke/VarHandle")
    {W9 : Nat} {Pre : Pt → Array Value → Prop} {Post : Pt → Array Value → Option Value → Pt → Prop} (hK : Back l R p e below s args y 3 W9 Pre Post)
    {b : Addr} {cellB : Cell} (hcell : T.heap[b]? = some cellB) (hobj : cellB.vm.isStatics = false) (hcls : s.vm.findClass C = some cellB.cls)
    {g : JFrame} (hg : g.method = m) (hsize : g.locals.size = c.maxLocals) {argsL rest : List Value} (hlen : ∀ sig, parseMethodDescriptor y.desc = some sig → argsL.length = sig.parameters.length)
    (hstack : g.stack = argsL.reverse ++ .ref b :: rest) (hW : 2 * g.monitorRoom + (rest.map fun v => v.category).sum ≤ W9) (hdg : decode c.code g.pc = .ok (.invokevirtual index, 3))
    (hpre : ∀ vm₁, s.WarmedH vm₁ → Pre ⟨T.setVm vm₁, locs, cells, slots⟩ (Value.ref b :: argsL).toArray) :
    ∃ (v : Option Value) (vm₁ : Vm) (B : Pt), s.WarmedH vm₁ ∧ Stand p l e R s m args below meth c B.U B.locs B.cells B.slots ∧ Post ⟨T.setVm vm₁, locs, cells, slots⟩ (Value.ref b :: argsL).toArray v B ∧
      ∀ target, Steps p.tables e below (B.U.setTop { g with pc := g.pc + 3, stack := v.toList ++ rest }) target → Steps p.tables e below (T.setTop g) target := by
  obtain ⟨mk, methM, hnamed, hmethM, hstM, habM⟩ := Cond.instanceMethod_spec hinst
  obtain ⟨m8, methM', cM, hn8, hmethM', -, -, -, -, -, -, hsigM⟩ := Cond.codeWith_spec hcode
  cases Option.some.inj (hn8.symm.trans hnamed)
  cases hmethM.symm.trans hmethM'
  obtain ⟨c2, r2, m2, q1, q2, q3, q4, kP, hkP, hkPi⟩ := Cond.selects_spec hsel
  cases hcls.symm.trans q1
  cases (State.methodFound?_of_named hnamed hy).symm.trans q2
  cases hnamed.symm.trans q3
  have hselP : selectMethod e.platform s.vm cellB.cls mk = .method mk := by rw [Launch.admits_selectMethod X.admits]; exact q4
  obtain ⟨vm₁, X₁, hstep₁⟩ := X.invokevirtual hexec hown hlink hnamed hmethM hstM hkP hkPi hy (a := b) (cell := cellB) hcell
    (fun z h => by rw [h] at hobj; cases hobj) hselP hmethM habM hkP hkPi (g := g) hg (argsL := argsL) (rest := rest) (hlen _ hsigM) hstack hdg
  obtain ⟨v, B, X', hpost, hsteps⟩ := hK m meth c ⟨T.setVm vm₁, locs, cells, slots⟩ { g with stack := rest } (.invokevirtual index) mk (Value.ref b :: argsL).toArray X₁ hg hsize hdg hW (X₁.named hnamed) (hpre vm₁ X₁.warmed)
  exact ⟨v, vm₁, B, X₁.warmed, X', hpost, fun target h => hstep₁ _ fun acts => by rw [doInvoke_state]; exact hsteps.trans h⟩
abbrev vx_CVW (R : Room) (s : State) (args : Array Value) (own C : String) (index : Nat) (y : MethodName) (bytes : ByteArray) (maxL : Nat) (ret : Option FieldType) (hh : List (Nat × Nat × Nat × Nat)) (ws : List Cond) (rm : Room) (mc ms n : Nat) : Prop :=
  (rm.cells = mc ∧ rm.slots = ms ∧ rm.frames + 1 ≤ R.frames ∧ 8 + (maxL + 11) + rm.locals ≤ R.locals ∧ (∀ w ∈ ws, ∀ (a' : Array Value) (U : State), s.WarmedH U.vm → w.before a' U = true) ∧ Cond.codeWith y bytes maxL ret hh ∈ ws) ∧
  (Cond.codeWith y bytes maxL ret hh).before args s = true ∧ (Cond.initialized y.cls).before args s = true ∧ (y.cls ≠ "java/lang/invoke/MethodHandle" ∧ y.cls ≠ "java/lang/invoke/VarHandle") ∧
  (∀ sig, parseMethodDescriptor y.desc = some sig → n = sig.parameters.length) ∧ (Cond.methodLink own index y).before args s = true ∧ (Cond.instanceMethod y).before args s = true ∧ (Cond.selects C y y).before args s = true
theorem vx_cwVW {own C : String} {index maxL mc ms : Nat} {y : MethodName} {bytes : ByteArray} {ret : Option FieldType} {hh : List (Nat × Nat × Nat × Nat)} {Ts ws ws' : List Cond} {rm : Room} (n : Nat) (ht : ∀ w ∈ Ts, w.before args s = true) (hT : GoodIn Ts (wsV own index C y ws)) (hw : ws = Cond.codeWith y bytes maxL ret hh :: ws') (hrc : rm.cells = mc) (hrs : rm.slots = ms)
    (hd : y.cls = C ∧ y.cls ≠ "java/lang/invoke/MethodHandle" ∧ y.cls ≠ "java/lang/invoke/VarHandle" ∧ (parseMethodDescriptor y.desc).map (fun d => d.parameters.length) = some n) (hR : rm.frames + 1 ≤ R.frames ∧ 8 + (maxL + 11) + rm.locals ≤ R.locals) :
    vx_CVW R s args own C index y bytes maxL ret hh ws rm mc ms n := by
  obtain ⟨hC, hd⟩ := hd
  subst hC
  have ok : ∀ w ∈ wsV own index y.cls y ws, w.before args s = true := fun w h => ht w (hT w h).1
  have hG : GoodIn Ts ws := fun w h => hT w (by unfold wsV; exact List.mem_append_right _ h)
  have hc : Cond.codeWith y bytes maxL ret hh ∈ ws := by rw [hw]; exact List.mem_cons_self
  refine ⟨⟨hrc, hrs, hR.1, hR.2, pay_in ht hG, hc⟩, ht _ (hG _ hc).1, ok _ (by simp [wsV]), ⟨hd.1, hd.2.1⟩, fun sig h => ?_, ok _ (by simp [wsV]), ok _ (by simp [wsV]), ok _ (by simp [wsV])⟩
  have h2 := hd.2.2
  rw [h] at h2
  exact (Option.some.inj h2).symm
theorem vx_runVW {y : MethodName} {bytes cc : ByteArray} {maxL nL mc ms n index : Nat} {ret : Option FieldType} {hh : List (Nat × Nat × Nat × Nat)} {ws : List Cond} {rm : Room} {Pc : Array Value → State → Prop} {Qc : Array Value → State → Outcome → State → Prop} {free : Addr → Prop} {Ts : List Cond} {own C : String} {b : Addr} {As rest : List Value} {g : JFrame}
    (S : CallFix p m c cc nL s args Ts own) (hM : Met l y ws rm Pc Qc mc ms free) (cw : vx_CVW R s args own C index y bytes maxL ret hh ws rm mc ms n) (hp : PreV s H C b Pc As)
    (hg : g.method = m) (hn : As.length = n) (hsize : g.locals.size = nL) (hstack : g.stack = As.reverse ++ .ref b :: rest) (hW : 2 * g.monitorRoom + (rest.map fun v => v.category).sum ≤ 8) (hdg : decode cc g.pc = .ok (.invokevirtual index, 3)) (hf : cells + mc ≤ R.cells ∧ slots + ms ≤ R.slots) :
    va_Run p l e R s m args below meth c H locs cells slots mc ms g rest (Qc (Value.ref b :: As).toArray) free := by
  obtain ⟨⟨hrc, hrs, hfr, hlo, hws, hcw⟩, hcode, hini, hy, hlen, hl, hin, hse⟩ := cw
  have hK : Back l R p e below s args y 3 8 (PreOf R mc ms Pc) (PostOf Qc mc ms free) := va_backW (hh := hh) (bytes := bytes) (maxL := maxL) (ret := ret) hM hp.1 hrc hrs hfr hlo hws hcw (fun a' U hW => word_at hW (Or.inl (by first | rfl | simp [Cond.onTables, Cond.keeps, Cond.steady])) hini)
  obtain ⟨hx, hb, hml, ho, -⟩ := S
  obtain ⟨-, ⟨cellB, hcB, hoB, hclB⟩, hPc⟩ := hp
  intro T hT X
  obtain ⟨v, vm₁, ⟨U', l2, c2, s2⟩, hW₁, X', ⟨g', mk, t, L, e1, e2, hq, h1, hL, h2, h3⟩, st⟩ := vx_callVW X hx (C := C) (hh := hh) (bytes := bytes) (maxL := maxL) (ret := ret) ho hl hin hse hcode hy hK (by rw [hT]; exact hcB) hoB hclB hg (hsize.trans hml.symm) (argsL := As) (rest := rest) (fun sig h => hn.trans (hlen sig h)) hstack hW (by rw [hb]; exact hdg)
    (fun vm₁ hW₁ => ⟨hf.1, hf.2, hPc (T.setVm vm₁) hT hW₁⟩)
  dsimp only [Pt.U, Pt.locs, Pt.cells, Pt.slots] at X' e1 e2 h1 h2 h3 st
  subst h1; subst h2; subst h3
  exact ⟨v, (T.setVm vm₁).calling g' mk (Value.ref b :: As).toArray, t, U', L, hT, X', hL, e1, e2, hq, st⟩
section
variable {y : MethodName} {bytes cc : ByteArray} {maxL nL mc ms n index : Nat} {ret : Option FieldType} {ws : List Cond} {rm : Room} {Pc : Array Value → State → Prop} {Qc : Array Value → State → Outcome → State → Prop} {XC : String → State → State → Prop} {free : Addr → Prop} {Ts : List Cond} {own C : String} {b : Addr} {As rest : List Value} {g : JFrame}
theorem vx_runVX {hh : List (Nat × Nat × Nat × Nat)} (S : CallFix p m c cc nL s args Ts own) (hM : vx_Met l y ws rm Pc Qc XC mc ms free) (cw : vx_CVW R s args own C index y bytes maxL ret hh ws rm mc ms n) (hp : PreV s H C b Pc As)
    (hg : g.method = m) (hn : As.length = n) (hsize : g.locals.size = nL) (hstack : g.stack = As.reverse ++ .ref b :: rest) (hW : 2 * g.monitorRoom + (rest.map fun v => v.category).sum ≤ 8) (hdg : decode cc g.pc = .ok (.invokevirtual index, 3)) (hf : cells + mc ≤ R.cells ∧ slots + ms ≤ R.slots) :
    vx_Run p l e R s m args below meth c H locs cells slots mc ms g rest (Qc (Value.ref b :: As).toArray) XC free := by
  obtain ⟨⟨hrc, hrs, hfr, hlo, hws, hcw⟩, hcode, hini, hy, hlen, hl, hin, hse⟩ := cw
  have hK : vx_Back l R p e below s args y 3 8 (PreOf R mc ms Pc) (PostOf Qc mc ms free) (vx_Post XC mc ms free) := vx_backW (hh := hh) (bytes := bytes) (maxL := maxL) (ret := ret) hM hp.1 hrc hrs hfr hlo hws hcw (fun a' U hW => word_at hW (Or.inl (by first | rfl | simp [Cond.onTables, Cond.keeps, Cond.steady])) hini)
  obtain ⟨hx, hb, hml, ho, -⟩ := S
  obtain ⟨-, ⟨cellB, hcB, hoB, hclB⟩, hPc⟩ := hp
  intro T hT X
  rcases vx_callVX X hx (C := C) (hh := hh) (bytes := bytes) (maxL := maxL) (ret := ret) ho hl hin hse hcode hy hK (by rw [hT]; exact hcB) hoB hclB hg (hsize.trans hml.symm) (argsL := As) (rest := rest) (fun sig h => hn.trans (hlen sig h)) hstack hW (by rw [hb]; exact hdg)
    (fun vm₁ hW₁ => ⟨hf.1, hf.2, hPc (T.setVm vm₁) hT hW₁⟩) with ⟨v, vm₁, ⟨U', l2, c2, s2⟩, hW₁, X', ⟨g', mk, t, L, e1, e2, hq, h1, hL, h2, h3⟩, st⟩ | ⟨q, vm₁, ⟨U', l2, c2, s2⟩, hW₁, X', ⟨g', mk, t, L, E, ce, e1, e2, hq, hce, hcv, hcl, h1, hL, h2, h3⟩, st⟩
  · dsimp only [Pt.U, Pt.locs, Pt.cells, Pt.slots] at X' e1 e2 h1 h2 h3 st
    subst h1; subst h2; subst h3
    exact Or.inl ⟨v, (T.setVm vm₁).calling g' mk (Value.ref b :: As).toArray, t, U', L, hT, X', hL, e1, e2, hq, st⟩
  · dsimp only [Pt.U, Pt.locs, Pt.cells, Pt.slots] at X' e1 e2 h1 h2 h3 st hcl
    subst h1; subst h2; subst h3
    exact Or.inr ⟨q, (T.setVm vm₁).calling g' mk (Value.ref b :: As).toArray, t, U', L, E, ce, hT, X', hL, e1, e2, hq, hce, hcv, vx_cls hW₁ hcl, st⟩
theorem vx_runSX {hh : List (Nat × Nat × Nat × Nat)} (S : CallFix p m c cc nL s args Ts own) (hM : vx_Met l y ws rm Pc Qc XC mc ms free) (cw : vx_CSW R s args own index y bytes maxL ret hh ws rm mc ms n) (hp : PreS s H Pc As)
    (hg : g.method = m) (hn : As.length = n) (hsize : g.locals.size = nL) (hstack : g.stack = As.reverse ++ rest) (hW : 2 * g.monitorRoom + (rest.map fun v => v.category).sum ≤ 8) (hdg : decode cc g.pc = .ok (.invokestatic index, 3)) (hf : cells + mc ≤ R.cells ∧ slots + ms ≤ R.slots) :
    vx_Run p l e R s m args below meth c H locs cells slots mc ms g rest (Qc As.toArray) XC free := by
  obtain ⟨⟨hrc, hrs, hfr, hlo, hws, hcw⟩, hcode, hini, hy, hlen, hl, hstt⟩ := cw
  have hK : vx_Back l R p e below s args y 3 8 (PreOf R mc ms Pc) (PostOf Qc mc ms free) (vx_Post XC mc ms free) := vx_backW (hh := hh) (bytes := bytes) (maxL := maxL) (ret := ret) hM hp.1 hrc hrs hfr hlo hws hcw (fun a' U hW => word_at hW (Or.inl (by first | rfl | simp [Cond.onTables, Cond.keeps, Cond.steady])) hini)
  obtain ⟨hx, hb, hml, ho, -⟩ := S
  intro T hT X
  rcases vx_callSX X hx (hh := hh) (bytes := bytes) (maxL := maxL) (ret := ret) ho hl hstt hini hcode hy hK hg (hsize.trans hml.symm) (argsL := As) (rest := rest) (fun sig h => hn.trans (hlen sig h)) hstack hW (by rw [hb]; exact hdg)
    (fun vm₁ hW₁ => ⟨hf.1, hf.2, hp.2 (T.setVm vm₁) hT hW₁⟩) with ⟨v, vm₁, ⟨U', l2, c2, s2⟩, hW₁, X', ⟨g', mk, t, L, e1, e2, hq, h1, hL, h2, h3⟩, st⟩ | ⟨q, vm₁, ⟨U', l2, c2, s2⟩, hW₁, X', ⟨g', mk, t, L, E, ce, e1, e2, hq, hce, hcv, hcl, h1, hL, h2, h3⟩, st⟩
  · dsimp only [Pt.U, Pt.locs, Pt.cells, Pt.slots] at X' e1 e2 h1 h2 h3 st
    subst h1; subst h2; subst h3
    exact Or.inl ⟨v, (T.setVm vm₁).calling g' mk As.toArray, t, U', L, hT, X', hL, e1, e2, hq, st⟩
  · dsimp only [Pt.U, Pt.locs, Pt.cells, Pt.slots] at X' e1 e2 h1 h2 h3 st hcl
    subst h1; subst h2; subst h3
    exact Or.inr ⟨q, (T.setVm vm₁).calling g' mk As.toArray, t, U', L, E, ce, hT, X', hL, e1, e2, hq, hce, hcv, vx_cls hW₁ hcl, st⟩
end
end VXH
theorem vx_ofWH {l : Launch} {y : MethodName} {ws ws' : List Cond} {rm : Room} {Pc : Array Value → State → Prop} {Qc : Array Value → State → Outcome → State → Prop} {XC : String → State → State → Prop} {mc ms : Nat} {free : Addr → Prop} {cc : ByteArray} {maxL : Nat} {ret : Option FieldType} {hh : List (Nat × Nat × Nat × Nat)}
    (hy : plainName y.cls = true) (hw : ws = Cond.codeWith y cc maxL ret hh :: ws')
    (body : ∀ p e s m args below meth c s₁, BodyLoose p l y (headSpec ws rm) cc maxL ret e s m args below meth c s₁ → c.maxLocals = maxL → Pc args s →
      W p l e (headSpec ws rm).room s m args below meth c s.heap [] 0 0 (vx_MQ below Qc XC args s mc ms free) (entryFrame m args maxL)) : vx_Met l y ws rm Pc Qc XC mc ms free := by
  refine MetFree.of_bodyS (code := cc) (maxLocals := maxL) (ret := ret) hy ?_ ?_
  · intro args s m h hn
    obtain ⟨m9, meth, c, hn9, h1, h2, h3, h4, -, h5, h6, -⟩ := Cond.codeWith_spec (atoms_spec (ws := ws) h _ (by rw [hw]; exact List.mem_cons_self))
    cases hn.symm.trans hn9
    exact ⟨meth, c, h1, h2, h3, h4, h5, h6⟩
  · intro p e s m args below meth c s₁ B hml hP _
    have hh0 : s₁.heap = s.heap := by rw [B.state]; rfl
    obtain ⟨t, a1, o, b1, b2, b3⟩ := body p e s m args below meth c s₁ B hml hP s₁ hh0 (Stand.of_body B)
    exact ⟨t, o, a1, b1, b2, b3⟩
/-! ===== END ===== -/
end
section
/-! ===== END ===== -/

/-! ===== BEGIN printed: names, fields, word lists, decode rows ===== -/
def RX0 : String := "PreparedPlans$Comparison"
def TX0 : u_T := fun k => match k with
  | 0 => ("PreparedPlans$Comparison", "column", "I", true)
  | 1 => ("PreparedPlans$Comparison", "sign", "C", true)
  | 2 => ("PreparedPlans$Comparison", "kind", "I", true)
  | _ => ("PreparedPlans$Comparison", "operand", "I", true)
def tyX0 : Nat → FieldType := fun k => match k with
  | 0 => .int
  | 1 => .char
  | 2 => .int
  | _ => .int
abbrev wsX00 : List Cond := u_ws RX0 TX0 4
theorem nmX0 : ∀ a, a < 4 → ∀ b, b < 4 → a ≠ b → (TX0 a).2.1 ≠ (TX0 b).2.1 := by decide +kernel
theorem tyX0_ok : ∀ k, k < 4 → parseFieldDescriptor (TX0 k).2.2.1 = some (tyX0 k) := by decide +kernel
abbrev cX0_init : ByteArray := prog_2_method_1_code
def yX0_init : MethodName := ⟨RX0, "<init>", "(ICII)V"⟩
abbrev cX0_valueWith : ByteArray := prog_2_method_2_code
def yX0_valueWith : MethodName := ⟨RX0, "valueWith", "([I)I"⟩
abbrev cX0_matches : ByteArray := prog_2_method_3_code
def yX0_matches : MethodName := ⟨RX0, "matches", "(LPreparedPlans$Data;[I)J"⟩
abbrev cX0_holds : ByteArray := prog_2_method_4_code
def yX0_holds : MethodName := ⟨RX0, "holds", "(II)Z"⟩
abbrev cX0_addSargable : ByteArray := prog_2_method_5_code
def yX0_addSargable : MethodName := ⟨RX0, "addSargable", "(Ljava/util/ArrayList;)V"⟩
def RX1 : String := "PreparedPlans$Compound"
def TX1 : u_T := fun k => match k with
  | 0 => ("PreparedPlans$Compound", "kind", "I", true)
  | _ => ("PreparedPlans$Compound", "parts", "Ljava/util/ArrayList;", true)
def tyX1 : Nat → FieldType := fun k => match k with
  | 0 => .int
  | _ => .object "java/util/ArrayList"
abbrev wsX10 : List Cond := u_ws RX1 TX1 2
theorem nmX1 : ∀ a, a < 2 → ∀ b, b < 2 → a ≠ b → (TX1 a).2.1 ≠ (TX1 b).2.1 := by decide +kernel
theorem tyX1_ok : ∀ k, k < 2 → parseFieldDescriptor (TX1 k).2.2.1 = some (tyX1 k) := by decide +kernel
abbrev cX1_init : ByteArray := prog_3_method_1_code
def yX1_init : MethodName := ⟨RX1, "<init>", "(I)V"⟩
abbrev cX1_matches : ByteArray := prog_3_method_2_code
def yX1_matches : MethodName := ⟨RX1, "matches", "(LPreparedPlans$Data;[I)J"⟩
abbrev cX1_addSargable : ByteArray := prog_3_method_3_code
def yX1_addSargable : MethodName := ⟨RX1, "addSargable", "(Ljava/util/ArrayList;)V"⟩
def RX2 : String := "PreparedPlans$Condition"
def TX2 : u_T := fun k => match k with
  | _ => ("", "", "", false)
def tyX2 : Nat → FieldType := fun k => match k with
  | _ => .int
abbrev wsX20 : List Cond := u_ws RX2 TX2 0
theorem nmX2 : ∀ a, a < 0 → ∀ b, b < 0 → a ≠ b → (TX2 a).2.1 ≠ (TX2 b).2.1 := by decide +kernel
theorem tyX2_ok : ∀ k, k < 0 → parseFieldDescriptor (TX2 k).2.2.1 = some (tyX2 k) := by decide +kernel
abbrev cX2_init : ByteArray := prog_4_method_1_code
def yX2_init : MethodName := ⟨RX2, "<init>", "()V"⟩
def RX3 : String := "PreparedPlans$Data"
def TX3 : u_T := fun k => match k with
  | 0 => ("PreparedPlans$Data", "setup", "LPreparedPlans$Setup;", false)
  | 1 => ("PreparedPlans$Data", "rowCount", "I", false)
  | 2 => ("PreparedPlans$Data", "version", "I", false)
  | 3 => ("PreparedPlans$Data", "cells", "[I", true)
  | 4 => ("PreparedPlans$Data", "isIndexed", "[Z", true)
  | 5 => ("PreparedPlans$Data", "statistics", "LPreparedPlans$Statistics;", true)
  | _ => ("PreparedPlans$Data", "usages", "[LPreparedPlans$Usage;", true)
def tyX3 : Nat → FieldType := fun k => match k with
  | 0 => .object "PreparedPlans$Setup"
  | 1 => .int
  | 2 => .int
  | 3 => .array .int
  | 4 => .array .boolean
  | 5 => .object "PreparedPlans$Statistics"
  | _ => .array (.object "PreparedPlans$Usage")
abbrev wsX30 : List Cond := u_ws RX3 TX3 7
theorem nmX3 : ∀ a, a < 7 → ∀ b, b < 7 → a ≠ b → (TX3 a).2.1 ≠ (TX3 b).2.1 := by decide +kernel
theorem tyX3_ok : ∀ k, k < 7 → parseFieldDescriptor (TX3 k).2.2.1 = some (tyX3 k) := by decide +kernel
abbrev cX3_init : ByteArray := prog_5_method_1_code
def yX3_init : MethodName := ⟨RX3, "<init>", "(LPreparedPlans$Setup;)V"⟩
abbrev cX3_clear : ByteArray := prog_5_method_2_code
def yX3_clear : MethodName := ⟨RX3, "clear", "(LPreparedPlans$Setup;)V"⟩
abbrev cX3_copyFrom : ByteArray := prog_5_method_3_code
def yX3_copyFrom : MethodName := ⟨RX3, "copyFrom", "(LPreparedPlans$Data;)V"⟩
abbrev cX3_isCell : ByteArray := prog_5_method_4_code
def yX3_isCell : MethodName := ⟨RX3, "isCell", "(II)Z"⟩
abbrev cX3_cell : ByteArray := prog_5_method_5_code
def yX3_cell : MethodName := ⟨RX3, "cell", "(II)I"⟩
abbrev cX3_putCell : ByteArray := prog_5_method_6_code
def yX3_putCell : MethodName := ⟨RX3, "putCell", "(III)V"⟩
abbrev cX3_removeRow : ByteArray := prog_5_method_7_code
def yX3_removeRow : MethodName := ⟨RX3, "removeRow", "(I)V"⟩
abbrev cX3_allRows : ByteArray := prog_5_method_8_code
def yX3_allRows : MethodName := ⟨RX3, "allRows", "()J"⟩
abbrev cX3_takeStatistics : ByteArray := prog_5_method_9_code
def yX3_takeStatistics : MethodName := ⟨RX3, "takeStatistics", "()V"⟩
abbrev cX3_takeStatisticsOf : ByteArray := prog_5_method_10_code
def yX3_takeStatisticsOf : MethodName := ⟨RX3, "takeStatisticsOf", "(I)V"⟩
abbrev cX3_isFirst : ByteArray := prog_5_method_11_code
def yX3_isFirst : MethodName := ⟨RX3, "isFirst", "(II)Z"⟩
abbrev cX3_findRows : ByteArray := prog_5_method_12_code
def yX3_findRows : MethodName := ⟨RX3, "findRows", "(I[I)J"⟩
abbrev cX3_chosenFor : ByteArray := prog_5_method_13_code
def yX3_chosenFor : MethodName := ⟨RX3, "chosenFor", "(II[I)LPreparedPlans$Comparison;"⟩
abbrev cX3_costOf : ByteArray := prog_5_method_14_code
def yX3_costOf : MethodName := ⟨RX3, "costOf", "(II[I)I"⟩
abbrev cX3_bestPlan : ByteArray := prog_5_method_15_code
def yX3_bestPlan : MethodName := ⟨RX3, "bestPlan", "(I[I)I"⟩
abbrev cX3_choosePlan : ByteArray := prog_5_method_16_code
def yX3_choosePlan : MethodName := ⟨RX3, "choosePlan", "(I[I)I"⟩
abbrev cX3_execute : ByteArray := prog_5_method_17_code
def yX3_execute : MethodName := ⟨RX3, "execute", "(I[I)V"⟩
def RX4 : String := "PreparedPlans$Prepared"
def TX4 : u_T := fun k => match k with
  | 0 => ("PreparedPlans$Prepared", "name", "J", true)
  | 1 => ("PreparedPlans$Prepared", "condition", "LPreparedPlans$Condition;", true)
  | 2 => ("PreparedPlans$Prepared", "holeTypes", "[I", true)
  | _ => ("PreparedPlans$Prepared", "sargable", "Ljava/util/ArrayList;", true)
def tyX4 : Nat → FieldType := fun k => match k with
  | 0 => .long
  | 1 => .object "PreparedPlans$Condition"
  | 2 => .array .int
  | _ => .object "java/util/ArrayList"
abbrev wsX40 : List Cond := u_ws RX4 TX4 4
theorem nmX4 : ∀ a, a < 4 → ∀ b, b < 4 → a ≠ b → (TX4 a).2.1 ≠ (TX4 b).2.1 := by decide +kernel
theorem tyX4_ok : ∀ k, k < 4 → parseFieldDescriptor (TX4 k).2.2.1 = some (tyX4 k) := by decide +kernel
abbrev cX4_init : ByteArray := prog_6_method_1_code
def yX4_init : MethodName := ⟨RX4, "<init>", "(JLPreparedPlans$Condition;[I)V"⟩
def RX5 : String := "PreparedPlans$Setup"
def TX5 : u_T := fun k => match k with
  | 0 => ("PreparedPlans$Setup", "columnCount", "I", false)
  | 1 => ("PreparedPlans$Setup", "columnNames", "[J", true)
  | 2 => ("PreparedPlans$Setup", "columnTypes", "[I", true)
  | 3 => ("PreparedPlans$Setup", "statements", "Ljava/util/ArrayList;", true)
  | 4 => ("PreparedPlans$Setup", "scan", "I", false)
  | 5 => ("PreparedPlans$Setup", "probe", "I", false)
  | 6 => ("PreparedPlans$Setup", "fetch", "I", false)
  | _ => ("PreparedPlans$Setup", "tries", "I", false)
def tyX5 : Nat → FieldType := fun k => match k with
  | 0 => .int
  | 1 => .array .long
  | 2 => .array .int
  | 3 => .object "java/util/ArrayList"
  | 4 => .int
  | 5 => .int
  | 6 => .int
  | _ => .int
abbrev wsX50 : List Cond := u_ws RX5 TX5 8
theorem nmX5 : ∀ a, a < 8 → ∀ b, b < 8 → a ≠ b → (TX5 a).2.1 ≠ (TX5 b).2.1 := by decide +kernel
theorem tyX5_ok : ∀ k, k < 8 → parseFieldDescriptor (TX5 k).2.2.1 = some (tyX5 k) := by decide +kernel
abbrev cX5_init : ByteArray := prog_7_method_1_code
def yX5_init : MethodName := ⟨RX5, "<init>", "()V"⟩
abbrev cX5_addColumn : ByteArray := prog_7_method_2_code
def yX5_addColumn : MethodName := ⟨RX5, "addColumn", "(JI)V"⟩
abbrev cX5_typeOf : ByteArray := prog_7_method_3_code
def yX5_typeOf : MethodName := ⟨RX5, "typeOf", "(I)I"⟩
abbrev cX5_findColumn : ByteArray := prog_7_method_4_code
def yX5_findColumn : MethodName := ⟨RX5, "findColumn", "(J)I"⟩
abbrev cX5_findStatement : ByteArray := prog_7_method_5_code
def yX5_findStatement : MethodName := ⟨RX5, "findStatement", "(J)I"⟩
def RX6 : String := "PreparedPlans$SetupReader"
def TX6 : u_T := fun k => match k with
  | 0 => ("PreparedPlans$SetupReader", "tokens", "LPreparedPlans$Tokens;", true)
  | 1 => ("PreparedPlans$SetupReader", "data", "LPreparedPlans$Data;", true)
  | 2 => ("PreparedPlans$SetupReader", "setup", "LPreparedPlans$Setup;", true)
  | 3 => ("PreparedPlans$SetupReader", "holeTypes", "[I", false)
  | 4 => ("PreparedPlans$SetupReader", "error", "I", false)
  | _ => ("PreparedPlans$SetupReader", "errorAt", "I", false)
def tyX6 : Nat → FieldType := fun k => match k with
  | 0 => .object "PreparedPlans$Tokens"
  | 1 => .object "PreparedPlans$Data"
  | 2 => .object "PreparedPlans$Setup"
  | 3 => .array .int
  | 4 => .int
  | _ => .int
abbrev wsX60 : List Cond := u_ws RX6 TX6 6
theorem nmX6 : ∀ a, a < 6 → ∀ b, b < 6 → a ≠ b → (TX6 a).2.1 ≠ (TX6 b).2.1 := by decide +kernel
theorem tyX6_ok : ∀ k, k < 6 → parseFieldDescriptor (TX6 k).2.2.1 = some (tyX6 k) := by decide +kernel
abbrev cX6_init : ByteArray := prog_8_method_1_code
def yX6_init : MethodName := ⟨RX6, "<init>", "(LPreparedPlans$Tokens;LPreparedPlans$Data;)V"⟩
abbrev cX6_readSetup : ByteArray := prog_8_method_2_code
def yX6_readSetup : MethodName := ⟨RX6, "readSetup", "()V"⟩
abbrev cX6_fail : ByteArray := prog_8_method_3_code
def yX6_fail : MethodName := ⟨RX6, "fail", "(II)V"⟩
abbrev cX6_expectWord : ByteArray := prog_8_method_4_code
def yX6_expectWord : MethodName := ⟨RX6, "expectWord", "(Ljava/lang/String;)V"⟩
abbrev cX6_expectByte : ByteArray := prog_8_method_5_code
def yX6_expectByte : MethodName := ⟨RX6, "expectByte", "(C)V"⟩
abbrev cX6_takeNumber : ByteArray := prog_8_method_6_code
def yX6_takeNumber : MethodName := ⟨RX6, "takeNumber", "(I)I"⟩
abbrev cX6_takeName : ByteArray := prog_8_method_7_code
def yX6_takeName : MethodName := ⟨RX6, "takeName", "()J"⟩
abbrev cX6_takeColumn : ByteArray := prog_8_method_8_code
def yX6_takeColumn : MethodName := ⟨RX6, "takeColumn", "()I"⟩
abbrev cX6_readColumn : ByteArray := prog_8_method_9_code
def yX6_readColumn : MethodName := ⟨RX6, "readColumn", "()V"⟩
abbrev cX6_takeType : ByteArray := prog_8_method_10_code
def yX6_takeType : MethodName := ⟨RX6, "takeType", "()I"⟩
abbrev cX6_readIndex : ByteArray := prog_8_method_11_code
def yX6_readIndex : MethodName := ⟨RX6, "readIndex", "()V"⟩
abbrev cX6_readRow : ByteArray := prog_8_method_12_code
def yX6_readRow : MethodName := ⟨RX6, "readRow", "()V"⟩
abbrev cX6_readPrepare : ByteArray := prog_8_method_13_code
def yX6_readPrepare : MethodName := ⟨RX6, "readPrepare", "()V"⟩
abbrev cX6_readCost : ByteArray := prog_8_method_14_code
def yX6_readCost : MethodName := ⟨RX6, "readCost", "()V"⟩
abbrev cX6_readTries : ByteArray := prog_8_method_15_code
def yX6_readTries : MethodName := ⟨RX6, "readTries", "()V"⟩
abbrev cX6_readCondition : ByteArray := prog_8_method_16_code
def yX6_readCondition : MethodName := ⟨RX6, "readCondition", "(I)LPreparedPlans$Condition;"⟩
abbrev cX6_readFactor : ByteArray := prog_8_method_17_code
def yX6_readFactor : MethodName := ⟨RX6, "readFactor", "(I)LPreparedPlans$Condition;"⟩
abbrev cX6_readNested : ByteArray := prog_8_method_18_code
def yX6_readNested : MethodName := ⟨RX6, "readNested", "(I)LPreparedPlans$Condition;"⟩
abbrev cX6_takeSign : ByteArray := prog_8_method_19_code
def yX6_takeSign : MethodName := ⟨RX6, "takeSign", "()C"⟩
abbrev cX6_takeHole : ByteArray := prog_8_method_20_code
def yX6_takeHole : MethodName := ⟨RX6, "takeHole", "(I)I"⟩
def RX7 : String := "PreparedPlans$Statistics"
def TX7 : u_T := fun k => match k with
  | 0 => ("PreparedPlans$Statistics", "rowCount", "I", false)
  | 1 => ("PreparedPlans$Statistics", "different", "[I", true)
  | 2 => ("PreparedPlans$Statistics", "least", "[I", true)
  | _ => ("PreparedPlans$Statistics", "greatest", "[I", true)
def tyX7 : Nat → FieldType := fun k => match k with
  | 0 => .int
  | 1 => .array .int
  | 2 => .array .int
  | _ => .array .int
abbrev wsX70 : List Cond := u_ws RX7 TX7 4
theorem nmX7 : ∀ a, a < 4 → ∀ b, b < 4 → a ≠ b → (TX7 a).2.1 ≠ (TX7 b).2.1 := by decide +kernel
theorem tyX7_ok : ∀ k, k < 4 → parseFieldDescriptor (TX7 k).2.2.1 = some (tyX7 k) := by decide +kernel
abbrev cX7_init : ByteArray := prog_9_method_1_code
def yX7_init : MethodName := ⟨RX7, "<init>", "()V"⟩
abbrev cX7_copyFrom : ByteArray := prog_9_method_2_code
def yX7_copyFrom : MethodName := ⟨RX7, "copyFrom", "(LPreparedPlans$Statistics;)V"⟩
abbrev cX7_estimate : ByteArray := prog_9_method_3_code
def yX7_estimate : MethodName := ⟨RX7, "estimate", "(LPreparedPlans$Comparison;[I)I"⟩
abbrev cX7_estimateEqual : ByteArray := prog_9_method_4_code
def yX7_estimateEqual : MethodName := ⟨RX7, "estimateEqual", "(II)I"⟩
def RX8 : String := "PreparedPlans$Tokens"
def TX8 : u_T := fun k => match k with
  | 0 => ("PreparedPlans$Tokens", "kinds", "[I", true)
  | 1 => ("PreparedPlans$Tokens", "starts", "[I", true)
  | 2 => ("PreparedPlans$Tokens", "values", "[J", true)
  | 3 => ("PreparedPlans$Tokens", "count", "I", false)
  | 4 => ("PreparedPlans$Tokens", "next", "I", false)
  | 5 => ("PreparedPlans$Tokens", "kind", "I", false)
  | 6 => ("PreparedPlans$Tokens", "start", "I", false)
  | _ => ("PreparedPlans$Tokens", "value", "J", false)
def tyX8 : Nat → FieldType := fun k => match k with
  | 0 => .array .int
  | 1 => .array .int
  | 2 => .array .long
  | 3 => .int
  | 4 => .int
  | 5 => .int
  | 6 => .int
  | _ => .long
abbrev wsX80 : List Cond := u_ws RX8 TX8 8
theorem nmX8 : ∀ a, a < 8 → ∀ b, b < 8 → a ≠ b → (TX8 a).2.1 ≠ (TX8 b).2.1 := by decide +kernel
theorem tyX8_ok : ∀ k, k < 8 → parseFieldDescriptor (TX8 k).2.2.1 = some (tyX8 k) := by decide +kernel
abbrev cX8_init : ByteArray := prog_10_method_1_code
def yX8_init : MethodName := ⟨RX8, "<init>", "()V"⟩
abbrev cX8_split : ByteArray := prog_10_method_2_code
def yX8_split : MethodName := ⟨RX8, "split", "([BI)V"⟩
abbrev cX8_add : ByteArray := prog_10_method_3_code
def yX8_add : MethodName := ⟨RX8, "add", "(IIJ)V"⟩
abbrev cX8_addWord : ByteArray := prog_10_method_4_code
def yX8_addWord : MethodName := ⟨RX8, "addWord", "([BII)I"⟩
abbrev cX8_kindOf : ByteArray := prog_10_method_5_code
def yX8_kindOf : MethodName := ⟨RX8, "kindOf", "(J)I"⟩
abbrev cX8_addNumber : ByteArray := prog_10_method_6_code
def yX8_addNumber : MethodName := ⟨RX8, "addNumber", "([BII)I"⟩
abbrev cX8_advance : ByteArray := prog_10_method_7_code
def yX8_advance : MethodName := ⟨RX8, "advance", "()V"⟩
abbrev cX8_isWord : ByteArray := prog_10_method_8_code
def yX8_isWord : MethodName := ⟨RX8, "isWord", "(Ljava/lang/String;)Z"⟩
def RX9 : String := "PreparedPlans$Usage"
def TX9 : u_T := fun k => match k with
  | 0 => ("PreparedPlans$Usage", "runs", "I", false)
  | 1 => ("PreparedPlans$Usage", "specialRuns", "I", false)
  | 2 => ("PreparedPlans$Usage", "specialCosts", "I", false)
  | 3 => ("PreparedPlans$Usage", "genericsMade", "I", false)
  | 4 => ("PreparedPlans$Usage", "keptPlan", "I", false)
  | 5 => ("PreparedPlans$Usage", "keptCost", "I", false)
  | 6 => ("PreparedPlans$Usage", "keptVersion", "I", false)
  | 7 => ("PreparedPlans$Usage", "touched", "I", false)
  | _ => ("PreparedPlans$Usage", "percentages", "[I", true)
def tyX9 : Nat → FieldType := fun k => match k with
  | 0 => .int
  | 1 => .int
  | 2 => .int
  | 3 => .int
  | 4 => .int
  | 5 => .int
  | 6 => .int
  | 7 => .int
  | _ => .array .int
abbrev wsX90 : List Cond := u_ws RX9 TX9 9
theorem nmX9 : ∀ a, a < 9 → ∀ b, b < 9 → a ≠ b → (TX9 a).2.1 ≠ (TX9 b).2.1 := by decide +kernel
theorem tyX9_ok : ∀ k, k < 9 → parseFieldDescriptor (TX9 k).2.2.1 = some (tyX9 k) := by decide +kernel
abbrev cX9_init : ByteArray := prog_11_method_1_code
def yX9_init : MethodName := ⟨RX9, "<init>", "()V"⟩
abbrev cX9_clear : ByteArray := prog_11_method_2_code
def yX9_clear : MethodName := ⟨RX9, "clear", "()V"⟩
abbrev cX9_copyFrom : ByteArray := prog_11_method_3_code
def yX9_copyFrom : MethodName := ⟨RX9, "copyFrom", "(LPreparedPlans$Usage;)V"⟩
abbrev cX9_keepsFreshPlan : ByteArray := prog_11_method_4_code
def yX9_keepsFreshPlan : MethodName := ⟨RX9, "keepsFreshPlan", "(I)Z"⟩
abbrev cX9_prefersKeptPlan : ByteArray := prog_11_method_5_code
def yX9_prefersKeptPlan : MethodName := ⟨RX9, "prefersKeptPlan", "()Z"⟩
abbrev cX9_keep : ByteArray := prog_11_method_6_code
def yX9_keep : MethodName := ⟨RX9, "keep", "(III)V"⟩
abbrev cX9_learn : ByteArray := prog_11_method_7_code
def yX9_learn : MethodName := ⟨RX9, "learn", "(III)V"⟩
def RX10 : String := "PreparedPlans"
def TX10 : u_T := fun k => match k with
  | 0 => ("PreparedPlans", "buffer", "[B", true)
  | 1 => ("PreparedPlans", "bufferLength", "I", false)
  | 2 => ("PreparedPlans", "latestErrorOffset", "I", false)
  | 3 => ("PreparedPlans", "tokens", "LPreparedPlans$Tokens;", true)
  | 4 => ("PreparedPlans", "slots", "[LPreparedPlans$Data;", true)
  | 5 => ("PreparedPlans", "currentSlot", "I", false)
  | _ => ("PreparedPlans", "undoable", "I", false)
def tyX10 : Nat → FieldType := fun k => match k with
  | 0 => .array .byte
  | 1 => .int
  | 2 => .int
  | 3 => .object "PreparedPlans$Tokens"
  | 4 => .array (.object "PreparedPlans$Data")
  | 5 => .int
  | _ => .int
abbrev wsX100 : List Cond := u_ws RX10 TX10 7
theorem nmX10 : ∀ a, a < 7 → ∀ b, b < 7 → a ≠ b → (TX10 a).2.1 ≠ (TX10 b).2.1 := by decide +kernel
theorem tyX10_ok : ∀ k, k < 7 → parseFieldDescriptor (TX10 k).2.2.1 = some (tyX10 k) := by decide +kernel
abbrev cX10_init : ByteArray := prog_1_method_1_code
def yX10_init : MethodName := ⟨RX10, "<init>", "()V"⟩
abbrev cX10_append : ByteArray := prog_1_method_2_code
def yX10_append : MethodName := ⟨RX10, "append", "(IIIII)I"⟩
abbrev cX10_load : ByteArray := prog_1_method_3_code
def yX10_load : MethodName := ⟨RX10, "load", "(I)I"⟩
abbrev cX10_errorOffset : ByteArray := prog_1_method_4_code
def yX10_errorOffset : MethodName := ⟨RX10, "errorOffset", "()I"⟩
abbrev cX10_count : ByteArray := prog_1_method_5_code
def yX10_count : MethodName := ⟨RX10, "count", "(I)I"⟩
abbrev cX10_column : ByteArray := prog_1_method_6_code
def yX10_column : MethodName := ⟨RX10, "column", "(II)I"⟩
abbrev cX10_value : ByteArray := prog_1_method_7_code
def yX10_value : MethodName := ⟨RX10, "value", "(II)I"⟩
abbrev cX10_named : ByteArray := prog_1_method_8_code
def yX10_named : MethodName := ⟨RX10, "named", "(I)I"⟩
abbrev cX10_hole : ByteArray := prog_1_method_9_code
def yX10_hole : MethodName := ⟨RX10, "hole", "(II)I"⟩
abbrev cX10_statement : ByteArray := prog_1_method_10_code
def yX10_statement : MethodName := ⟨RX10, "statement", "(II)I"⟩
abbrev cX10_learned : ByteArray := prog_1_method_11_code
def yX10_learned : MethodName := ⟨RX10, "learned", "(II)I"⟩
abbrev cX10_kept : ByteArray := prog_1_method_12_code
def yX10_kept : MethodName := ⟨RX10, "kept", "(I)I"⟩
abbrev cX10_genericCost : ByteArray := prog_1_method_13_code
def yX10_genericCost : MethodName := ⟨RX10, "genericCost", "(II)I"⟩
abbrev cX10_special : ByteArray := prog_1_method_14_code
def yX10_special : MethodName := ⟨RX10, "special", "(IIIII)I"⟩
abbrev cX10_specialCost : ByteArray := prog_1_method_15_code
def yX10_specialCost : MethodName := ⟨RX10, "specialCost", "(IIIIII)I"⟩
abbrev cX10_wouldUse : ByteArray := prog_1_method_16_code
def yX10_wouldUse : MethodName := ⟨RX10, "wouldUse", "(IIIII)I"⟩
abbrev cX10_rows : ByteArray := prog_1_method_17_code
def yX10_rows : MethodName := ⟨RX10, "rows", "(IIIII)J"⟩
abbrev cX10_run : ByteArray := prog_1_method_18_code
def yX10_run : MethodName := ⟨RX10, "run", "(IIIII)I"⟩
abbrev cX10_insert : ByteArray := prog_1_method_19_code
def yX10_insert : MethodName := ⟨RX10, "insert", "(IIIII)I"⟩
abbrev cX10_delete : ByteArray := prog_1_method_20_code
def yX10_delete : MethodName := ⟨RX10, "delete", "(I)I"⟩
abbrev cX10_setIndex : ByteArray := prog_1_method_21_code
def yX10_setIndex : MethodName := ⟨RX10, "setIndex", "(IZ)Z"⟩
abbrev cX10_analyze : ByteArray := prog_1_method_22_code
def yX10_analyze : MethodName := ⟨RX10, "analyze", "()I"⟩
abbrev cX10_undo : ByteArray := prog_1_method_23_code
def yX10_undo : MethodName := ⟨RX10, "undo", "()I"⟩
abbrev cX10_checksum : ByteArray := prog_1_method_24_code
def yX10_checksum : MethodName := ⟨RX10, "checksum", "()J"⟩
abbrev cX10_addStatement : ByteArray := prog_1_method_25_code
def yX10_addStatement : MethodName := ⟨RX10, "addStatement", "(JI)J"⟩
abbrev cX10_appendWord : ByteArray := prog_1_method_26_code
def yX10_appendWord : MethodName := ⟨RX10, "appendWord", "(I)V"⟩
abbrev cX10_current : ByteArray := prog_1_method_27_code
def yX10_current : MethodName := ⟨RX10, "current", "()LPreparedPlans$Data;"⟩
abbrev cX10_spareSlot : ByteArray := prog_1_method_28_code
def yX10_spareSlot : MethodName := ⟨RX10, "spareSlot", "()I"⟩
abbrev cX10_spareCopy : ByteArray := prog_1_method_29_code
def yX10_spareCopy : MethodName := ⟨RX10, "spareCopy", "()LPreparedPlans$Data;"⟩
abbrev cX10_takeSpare : ByteArray := prog_1_method_30_code
def yX10_takeSpare : MethodName := ⟨RX10, "takeSpare", "()V"⟩
abbrev cX10_checkLength : ByteArray := prog_1_method_31_code
def yX10_checkLength : MethodName := ⟨RX10, "checkLength", "(I)V"⟩
abbrev cX10_checkColumn : ByteArray := prog_1_method_32_code
def yX10_checkColumn : MethodName := ⟨RX10, "checkColumn", "(I)V"⟩
abbrev cX10_checkRow : ByteArray := prog_1_method_33_code
def yX10_checkRow : MethodName := ⟨RX10, "checkRow", "(I)V"⟩
abbrev cX10_checkStatement : ByteArray := prog_1_method_34_code
def yX10_checkStatement : MethodName := ⟨RX10, "checkStatement", "(I)V"⟩
abbrev cX10_checkPlan : ByteArray := prog_1_method_35_code
def yX10_checkPlan : MethodName := ⟨RX10, "checkPlan", "(I)V"⟩
abbrev cX10_checkRange : ByteArray := prog_1_method_36_code
def yX10_checkRange : MethodName := ⟨RX10, "checkRange", "(II)V"⟩
abbrev cX10_checkedValues : ByteArray := prog_1_method_37_code
def yX10_checkedValues : MethodName := ⟨RX10, "checkedValues", "(IIIII)[I"⟩
abbrev cX10_greatestOf : ByteArray := prog_1_method_38_code
def yX10_greatestOf : MethodName := ⟨RX10, "greatestOf", "(I)I"⟩
abbrev cX10_nameIn : ByteArray := prog_1_method_39_code
def yX10_nameIn : MethodName := ⟨RX10, "nameIn", "([BII)J"⟩
abbrev cX10_nameOf : ByteArray := prog_1_method_40_code
def yX10_nameOf : MethodName := ⟨RX10, "nameOf", "(Ljava/lang/String;)J"⟩
abbrev cX10_isLetter : ByteArray := prog_1_method_41_code
def yX10_isLetter : MethodName := ⟨RX10, "isLetter", "(B)Z"⟩
abbrev cX10_isDigit : ByteArray := prog_1_method_42_code
def yX10_isDigit : MethodName := ⟨RX10, "isDigit", "(B)Z"⟩
def RX11 : String := "PreparedPlansModel"
def TX11 : u_T := fun k => match k with
  | 0 => ("PreparedPlansModel", "thrown", "I", false)
  | 1 => ("PreparedPlansModel", "rows", "[I", true)
  | 2 => ("PreparedPlansModel", "read", "[I", true)
  | 3 => ("PreparedPlansModel", "now", "I", false)
  | 4 => ("PreparedPlansModel", "undoable", "I", false)
  | 5 => ("PreparedPlansModel", "text", "[I", true)
  | 6 => ("PreparedPlansModel", "bytes", "I", false)
  | 7 => ("PreparedPlansModel", "errorAt", "I", false)
  | 8 => ("PreparedPlansModel", "size", "I", false)
  | 9 => ("PreparedPlansModel", "next", "I", false)
  | 10 => ("PreparedPlansModel", "error", "I", false)
  | 11 => ("PreparedPlansModel", "place", "I", false)
  | 12 => ("PreparedPlansModel", "began", "I", false)
  | 13 => ("PreparedPlansModel", "nested", "I", false)
  | 14 => ("PreparedPlansModel", "nameAt", "I", false)
  | 15 => ("PreparedPlansModel", "nameEnd", "I", false)
  | 16 => ("PreparedPlansModel", "reading", "I", false)
  | 17 => ("PreparedPlansModel", "given", "[I", true)
  | 18 => ("PreparedPlansModel", "pile", "[Z", true)
  | _ => ("PreparedPlansModel", "total", "J", false)
def tyX11 : Nat → FieldType := fun k => match k with
  | 0 => .int
  | 1 => .array .int
  | 2 => .array .int
  | 3 => .int
  | 4 => .int
  | 5 => .array .int
  | 6 => .int
  | 7 => .int
  | 8 => .int
  | 9 => .int
  | 10 => .int
  | 11 => .int
  | 12 => .int
  | 13 => .int
  | 14 => .int
  | 15 => .int
  | 16 => .int
  | 17 => .array .int
  | 18 => .array .boolean
  | _ => .long
abbrev wsX110 : List Cond := u_ws RX11 TX11 20
theorem nmX11 : ∀ a, a < 20 → ∀ b, b < 20 → a ≠ b → (TX11 a).2.1 ≠ (TX11 b).2.1 := by decide +kernel
theorem tyX11_ok : ∀ k, k < 20 → parseFieldDescriptor (TX11 k).2.2.1 = some (tyX11 k) := by decide +kernel
abbrev cX11_init : ByteArray := prog_13_method_1_code
def yX11_init : MethodName := ⟨RX11, "<init>", "()V"⟩
abbrev cX11_thrown : ByteArray := prog_13_method_2_code
def yX11_thrown : MethodName := ⟨RX11, "thrown", "()I"⟩
abbrev cX11_isIn : ByteArray := prog_13_method_3_code
def yX11_isIn : MethodName := ⟨RX11, "isIn", "(JJJ)Z"⟩
abbrev cX11_get : ByteArray := prog_13_method_4_code
def yX11_get : MethodName := ⟨RX11, "get", "(I)I"⟩
abbrev cX11_put : ByteArray := prog_13_method_5_code
def yX11_put : MethodName := ⟨RX11, "put", "(II)V"⟩
abbrev cX11_add : ByteArray := prog_13_method_6_code
def yX11_add : MethodName := ⟨RX11, "add", "(II)V"⟩
abbrev cX11_change : ByteArray := prog_13_method_7_code
def yX11_change : MethodName := ⟨RX11, "change", "()V"⟩
abbrev cX11_right : ByteArray := prog_13_method_8_code
def yX11_right : MethodName := ⟨RX11, "right", "(ZI)Z"⟩
abbrev cX11_plain : ByteArray := prog_13_method_9_code
def yX11_plain : MethodName := ⟨RX11, "plain", "()V"⟩
abbrev cX11_columnAt : ByteArray := prog_13_method_10_code
def yX11_columnAt : MethodName := ⟨RX11, "columnAt", "(II)I"⟩
abbrev cX11_valueAt : ByteArray := prog_13_method_11_code
def yX11_valueAt : MethodName := ⟨RX11, "valueAt", "(II)I"⟩
abbrev cX11_statementAt : ByteArray := prog_13_method_12_code
def yX11_statementAt : MethodName := ⟨RX11, "statementAt", "(II)I"⟩
abbrev cX11_codeAt : ByteArray := prog_13_method_13_code
def yX11_codeAt : MethodName := ⟨RX11, "codeAt", "(II)I"⟩
abbrev cX11_ofColumn : ByteArray := prog_13_method_14_code
def yX11_ofColumn : MethodName := ⟨RX11, "ofColumn", "(II)I"⟩
abbrev cX11_ofStatement : ByteArray := prog_13_method_15_code
def yX11_ofStatement : MethodName := ⟨RX11, "ofStatement", "(II)I"⟩
abbrev cX11_ofCode : ByteArray := prog_13_method_16_code
def yX11_ofCode : MethodName := ⟨RX11, "ofCode", "(II)I"⟩
abbrev cX11_mostOf : ByteArray := prog_13_method_17_code
def yX11_mostOf : MethodName := ⟨RX11, "mostOf", "(I)I"⟩
abbrev cX11_append : ByteArray := prog_13_method_18_code
def yX11_append : MethodName := ⟨RX11, "append", "(IIIII)I"⟩
abbrev cX11_fails : ByteArray := prog_13_method_19_code
def yX11_fails : MethodName := ⟨RX11, "fails", "(II)V"⟩
abbrev cX11_sees : ByteArray := prog_13_method_20_code
def yX11_sees : MethodName := ⟨RX11, "sees", "()I"⟩
abbrev cX11_isLetterOf : ByteArray := prog_13_method_21_code
def yX11_isLetterOf : MethodName := ⟨RX11, "isLetterOf", "(I)Z"⟩
abbrev cX11_wordEnd : ByteArray := prog_13_method_22_code
def yX11_wordEnd : MethodName := ⟨RX11, "wordEnd", "()I"⟩
abbrev cX11_isHere : ByteArray := prog_13_method_23_code
def yX11_isHere : MethodName := ⟨RX11, "isHere", "(Ljava/lang/String;)Z"⟩
abbrev cX11_takes : ByteArray := prog_13_method_24_code
def yX11_takes : MethodName := ⟨RX11, "takes", "(Ljava/lang/String;)Z"⟩
abbrev cX11_wants : ByteArray := prog_13_method_25_code
def yX11_wants : MethodName := ⟨RX11, "wants", "(I)V"⟩
abbrev cX11_isDigit : ByteArray := prog_13_method_26_code
def yX11_isDigit : MethodName := ⟨RX11, "isDigit", "()Z"⟩
abbrev cX11_reads : ByteArray := prog_13_method_27_code
def yX11_reads : MethodName := ⟨RX11, "reads", "(II)I"⟩
abbrev cX11_isName : ByteArray := prog_13_method_28_code
def yX11_isName : MethodName := ⟨RX11, "isName", "()Z"⟩
abbrev cX11_reach : ByteArray := prog_13_method_29_code
def yX11_reach : MethodName := ⟨RX11, "reach", "()V"⟩
abbrev cX11_nameInto : ByteArray := prog_13_method_30_code
def yX11_nameInto : MethodName := ⟨RX11, "nameInto", "(I)V"⟩
abbrev cX11_seek : ByteArray := prog_13_method_31_code
def yX11_seek : MethodName := ⟨RX11, "seek", "(III)I"⟩
abbrev cX11_freshName : ByteArray := prog_13_method_32_code
def yX11_freshName : MethodName := ⟨RX11, "freshName", "(III)V"⟩
abbrev cX11_knownColumn : ByteArray := prog_13_method_33_code
def yX11_knownColumn : MethodName := ⟨RX11, "knownColumn", "()I"⟩
abbrev cX11_codes : ByteArray := prog_13_method_34_code
def yX11_codes : MethodName := ⟨RX11, "codes", "(II)I"⟩
abbrev cX11_condition : ByteArray := prog_13_method_35_code
def yX11_condition : MethodName := ⟨RX11, "condition", "(Z)V"⟩
abbrev cX11_term : ByteArray := prog_13_method_36_code
def yX11_term : MethodName := ⟨RX11, "term", "(Z)V"⟩
abbrev cX11_deepens : ByteArray := prog_13_method_37_code
def yX11_deepens : MethodName := ⟨RX11, "deepens", "()Z"⟩
abbrev cX11_factor : ByteArray := prog_13_method_38_code
def yX11_factor : MethodName := ⟨RX11, "factor", "(Z)V"⟩
abbrev cX11_comparison : ByteArray := prog_13_method_39_code
def yX11_comparison : MethodName := ⟨RX11, "comparison", "(Z)V"⟩
abbrev cX11_holeHere : ByteArray := prog_13_method_40_code
def yX11_holeHere : MethodName := ⟨RX11, "holeHere", "(I)I"⟩
abbrev cX11_columnHere : ByteArray := prog_13_method_41_code
def yX11_columnHere : MethodName := ⟨RX11, "columnHere", "(I)I"⟩
abbrev cX11_columnLine : ByteArray := prog_13_method_42_code
def yX11_columnLine : MethodName := ⟨RX11, "columnLine", "(I)V"⟩
abbrev cX11_indexLine : ByteArray := prog_13_method_43_code
def yX11_indexLine : MethodName := ⟨RX11, "indexLine", "()V"⟩
abbrev cX11_rowLine : ByteArray := prog_13_method_44_code
def yX11_rowLine : MethodName := ⟨RX11, "rowLine", "(I)V"⟩
abbrev cX11_prepareLine : ByteArray := prog_13_method_45_code
def yX11_prepareLine : MethodName := ⟨RX11, "prepareLine", "(I)V"⟩
abbrev cX11_costLine : ByteArray := prog_13_method_46_code
def yX11_costLine : MethodName := ⟨RX11, "costLine", "()V"⟩
abbrev cX11_triesLine : ByteArray := prog_13_method_47_code
def yX11_triesLine : MethodName := ⟨RX11, "triesLine", "()V"⟩
abbrev cX11_startOf : ByteArray := prog_13_method_48_code
def yX11_startOf : MethodName := ⟨RX11, "startOf", "(Ljava/lang/String;)I"⟩
abbrev cX11_texts : ByteArray := prog_13_method_49_code
def yX11_texts : MethodName := ⟨RX11, "texts", "()V"⟩
abbrev cX11_load : ByteArray := prog_13_method_50_code
def yX11_load : MethodName := ⟨RX11, "load", "(I)I"⟩
abbrev cX11_errorOffset : ByteArray := prog_13_method_51_code
def yX11_errorOffset : MethodName := ⟨RX11, "errorOffset", "()I"⟩
abbrev cX11_unlike : ByteArray := prog_13_method_52_code
def yX11_unlike : MethodName := ⟨RX11, "unlike", "(I)I"⟩
abbrev cX11_extreme : ByteArray := prog_13_method_53_code
def yX11_extreme : MethodName := ⟨RX11, "extreme", "(IZ)I"⟩
abbrev cX11_looks : ByteArray := prog_13_method_54_code
def yX11_looks : MethodName := ⟨RX11, "looks", "()V"⟩
abbrev cX11_up : ByteArray := prog_13_method_55_code
def yX11_up : MethodName := ⟨RX11, "up", "(II)I"⟩
abbrev cX11_seenEstimate : ByteArray := prog_13_method_56_code
def yX11_seenEstimate : MethodName := ⟨RX11, "seenEstimate", "(II)I"⟩
abbrev cX11_estimate : ByteArray := prog_13_method_57_code
def yX11_estimate : MethodName := ⟨RX11, "estimate", "(IZ)I"⟩
abbrev cX11_chosen : ByteArray := prog_13_method_58_code
def yX11_chosen : MethodName := ⟨RX11, "chosen", "(IIZ)I"⟩
abbrev cX11_costOf : ByteArray := prog_13_method_59_code
def yX11_costOf : MethodName := ⟨RX11, "costOf", "(IIZ)I"⟩
abbrev cX11_bestPlan : ByteArray := prog_13_method_60_code
def yX11_bestPlan : MethodName := ⟨RX11, "bestPlan", "(IZ)I"⟩
abbrev cX11_isTrue : ByteArray := prog_13_method_61_code
def yX11_isTrue : MethodName := ⟨RX11, "isTrue", "(II)Z"⟩
abbrev cX11_finds : ByteArray := prog_13_method_62_code
def yX11_finds : MethodName := ⟨RX11, "finds", "(II)Z"⟩
abbrev cX11_count : ByteArray := prog_13_method_63_code
def yX11_count : MethodName := ⟨RX11, "count", "(I)I"⟩
abbrev cX11_noColumn : ByteArray := prog_13_method_64_code
def yX11_noColumn : MethodName := ⟨RX11, "noColumn", "(I)Z"⟩
abbrev cX11_noStatement : ByteArray := prog_13_method_65_code
def yX11_noStatement : MethodName := ⟨RX11, "noStatement", "(I)Z"⟩
abbrev cX11_column : ByteArray := prog_13_method_66_code
def yX11_column : MethodName := ⟨RX11, "column", "(II)I"⟩
abbrev cX11_value : ByteArray := prog_13_method_67_code
def yX11_value : MethodName := ⟨RX11, "value", "(II)I"⟩
abbrev cX11_nameOf : ByteArray := prog_13_method_68_code
def yX11_nameOf : MethodName := ⟨RX11, "nameOf", "(I)I"⟩
abbrev cX11_named : ByteArray := prog_13_method_69_code
def yX11_named : MethodName := ⟨RX11, "named", "(I)I"⟩
abbrev cX11_hole : ByteArray := prog_13_method_70_code
def yX11_hole : MethodName := ⟨RX11, "hole", "(II)I"⟩
abbrev cX11_stateOf : ByteArray := prog_13_method_71_code
def yX11_stateOf : MethodName := ⟨RX11, "stateOf", "(I)I"⟩
abbrev cX11_toldOf : ByteArray := prog_13_method_72_code
def yX11_toldOf : MethodName := ⟨RX11, "toldOf", "(II)I"⟩
abbrev cX11_statement : ByteArray := prog_13_method_73_code
def yX11_statement : MethodName := ⟨RX11, "statement", "(II)I"⟩
abbrev cX11_learned : ByteArray := prog_13_method_74_code
def yX11_learned : MethodName := ⟨RX11, "learned", "(II)I"⟩
abbrev cX11_kept : ByteArray := prog_13_method_75_code
def yX11_kept : MethodName := ⟨RX11, "kept", "(I)I"⟩
abbrev cX11_isPlan : ByteArray := prog_13_method_76_code
def yX11_isPlan : MethodName := ⟨RX11, "isPlan", "(I)Z"⟩
abbrev cX11_genericCost : ByteArray := prog_13_method_77_code
def yX11_genericCost : MethodName := ⟨RX11, "genericCost", "(II)I"⟩
abbrev cX11_isValue : ByteArray := prog_13_method_78_code
def yX11_isValue : MethodName := ⟨RX11, "isValue", "(III)Z"⟩
abbrev cX11_takesValues : ByteArray := prog_13_method_79_code
def yX11_takesValues : MethodName := ⟨RX11, "takesValues", "(IIIII)Z"⟩
abbrev cX11_special : ByteArray := prog_13_method_80_code
def yX11_special : MethodName := ⟨RX11, "special", "(IIIII)I"⟩
abbrev cX11_specialCost : ByteArray := prog_13_method_81_code
def yX11_specialCost : MethodName := ⟨RX11, "specialCost", "(IIIIII)I"⟩
abbrev cX11_isFresh : ByteArray := prog_13_method_82_code
def yX11_isFresh : MethodName := ⟨RX11, "isFresh", "(I)Z"⟩
abbrev cX11_isGeneric : ByteArray := prog_13_method_83_code
def yX11_isGeneric : MethodName := ⟨RX11, "isGeneric", "(II)Z"⟩
abbrev cX11_wouldUse : ByteArray := prog_13_method_84_code
def yX11_wouldUse : MethodName := ⟨RX11, "wouldUse", "(IIIII)I"⟩
abbrev cX11_rows : ByteArray := prog_13_method_85_code
def yX11_rows : MethodName := ⟨RX11, "rows", "(IIIII)J"⟩
abbrev cX11_makesGeneric : ByteArray := prog_13_method_86_code
def yX11_makesGeneric : MethodName := ⟨RX11, "makesGeneric", "(I)V"⟩
abbrev cX11_learns : ByteArray := prog_13_method_87_code
def yX11_learns : MethodName := ⟨RX11, "learns", "(IIIZI)V"⟩
abbrev cX11_touches : ByteArray := prog_13_method_88_code
def yX11_touches : MethodName := ⟨RX11, "touches", "(IIZ)V"⟩
abbrev cX11_run : ByteArray := prog_13_method_89_code
def yX11_run : MethodName := ⟨RX11, "run", "(IIIII)I"⟩
abbrev cX11_isCell : ByteArray := prog_13_method_90_code
def yX11_isCell : MethodName := ⟨RX11, "isCell", "(II)Z"⟩
abbrev cX11_insert : ByteArray := prog_13_method_91_code
def yX11_insert : MethodName := ⟨RX11, "insert", "(IIIII)I"⟩
abbrev cX11_delete : ByteArray := prog_13_method_92_code
def yX11_delete : MethodName := ⟨RX11, "delete", "(I)I"⟩
abbrev cX11_setIndex : ByteArray := prog_13_method_93_code
def yX11_setIndex : MethodName := ⟨RX11, "setIndex", "(IZ)Z"⟩
abbrev cX11_analyze : ByteArray := prog_13_method_94_code
def yX11_analyze : MethodName := ⟨RX11, "analyze", "()I"⟩
abbrev cX11_undo : ByteArray := prog_13_method_95_code
def yX11_undo : MethodName := ⟨RX11, "undo", "()I"⟩
abbrev cX11_adds : ByteArray := prog_13_method_96_code
def yX11_adds : MethodName := ⟨RX11, "adds", "(J)V"⟩
abbrev cX11_addsStatement : ByteArray := prog_13_method_97_code
def yX11_addsStatement : MethodName := ⟨RX11, "addsStatement", "(I)V"⟩
abbrev cX11_checksum : ByteArray := prog_13_method_98_code
def yX11_checksum : MethodName := ⟨RX11, "checksum", "()J"⟩
def RJx145de : String := "java/io/Serializable"
def TJx145de : u_T := fun k => match k with
  | _ => ("", "", "", false)
def tyJx145de : Nat → FieldType := fun k => match k with
  | _ => .int
abbrev wsJx145de0 : List Cond := u_ws RJx145de TJx145de 0
theorem nmJx145de : ∀ a, a < 0 → ∀ b, b < 0 → a ≠ b → (TJx145de a).2.1 ≠ (TJx145de b).2.1 := by decide +kernel
theorem tyJx145de_ok : ∀ k, k < 0 → parseFieldDescriptor (TJx145de k).2.2.1 = some (tyJx145de k) := by decide +kernel
def RJx9f9b0 : String := "java/lang/CharSequence"
def TJx9f9b0 : u_T := fun k => match k with
  | _ => ("", "", "", false)
def tyJx9f9b0 : Nat → FieldType := fun k => match k with
  | _ => .int
abbrev wsJx9f9b00 : List Cond := u_ws RJx9f9b0 TJx9f9b0 0
theorem nmJx9f9b0 : ∀ a, a < 0 → ∀ b, b < 0 → a ≠ b → (TJx9f9b0 a).2.1 ≠ (TJx9f9b0 b).2.1 := by decide +kernel
theorem tyJx9f9b0_ok : ∀ k, k < 0 → parseFieldDescriptor (TJx9f9b0 k).2.2.1 = some (tyJx9f9b0 k) := by decide +kernel
def RJx8e188 : String := "java/lang/Cloneable"
def TJx8e188 : u_T := fun k => match k with
  | _ => ("", "", "", false)
def tyJx8e188 : Nat → FieldType := fun k => match k with
  | _ => .int
abbrev wsJx8e1880 : List Cond := u_ws RJx8e188 TJx8e188 0
theorem nmJx8e188 : ∀ a, a < 0 → ∀ b, b < 0 → a ≠ b → (TJx8e188 a).2.1 ≠ (TJx8e188 b).2.1 := by decide +kernel
theorem tyJx8e188_ok : ∀ k, k < 0 → parseFieldDescriptor (TJx8e188 k).2.2.1 = some (tyJx8e188 k) := by decide +kernel
def RJxb160c : String := "java/lang/Comparable"
def TJxb160c : u_T := fun k => match k with
  | _ => ("", "", "", false)
def tyJxb160c : Nat → FieldType := fun k => match k with
  | _ => .int
abbrev wsJxb160c0 : List Cond := u_ws RJxb160c TJxb160c 0
theorem nmJxb160c : ∀ a, a < 0 → ∀ b, b < 0 → a ≠ b → (TJxb160c a).2.1 ≠ (TJxb160c b).2.1 := by decide +kernel
theorem tyJxb160c_ok : ∀ k, k < 0 → parseFieldDescriptor (TJxb160c k).2.2.1 = some (tyJxb160c k) := by decide +kernel
def RJxab1ab : String := "java/lang/Iterable"
def TJxab1ab : u_T := fun k => match k with
  | _ => ("", "", "", false)
def tyJxab1ab : Nat → FieldType := fun k => match k with
  | _ => .int
abbrev wsJxab1ab0 : List Cond := u_ws RJxab1ab TJxab1ab 0
theorem nmJxab1ab : ∀ a, a < 0 → ∀ b, b < 0 → a ≠ b → (TJxab1ab a).2.1 ≠ (TJxab1ab b).2.1 := by decide +kernel
theorem tyJxab1ab_ok : ∀ k, k < 0 → parseFieldDescriptor (TJxab1ab k).2.2.1 = some (tyJxab1ab k) := by decide +kernel
def RJ13 : String := "java/lang/Long"
def TJ13 : u_T := fun k => match k with
  | _ => ("", "", "", false)
def tyJ13 : Nat → FieldType := fun k => match k with
  | _ => .int
abbrev wsJ130 : List Cond := u_ws RJ13 TJ13 0
theorem nmJ13 : ∀ a, a < 0 → ∀ b, b < 0 → a ≠ b → (TJ13 a).2.1 ≠ (TJ13 b).2.1 := by decide +kernel
theorem tyJ13_ok : ∀ k, k < 0 → parseFieldDescriptor (TJ13 k).2.2.1 = some (tyJ13 k) := by decide +kernel
abbrev cJ13_bitCount_95d88 : ByteArray := prog_23_method_50_code
def yJ13_bitCount_95d88 : MethodName := ⟨RJ13, "bitCount", "(J)I"⟩
def RJ9 : String := "java/lang/Math"
def TJ9 : u_T := fun k => match k with
  | _ => ("", "", "", false)
def tyJ9 : Nat → FieldType := fun k => match k with
  | _ => .int
abbrev wsJ90 : List Cond := u_ws RJ9 TJ9 0
theorem nmJ9 : ∀ a, a < 0 → ∀ b, b < 0 → a ≠ b → (TJ9 a).2.1 ≠ (TJ9 b).2.1 := by decide +kernel
theorem tyJ9_ok : ∀ k, k < 0 → parseFieldDescriptor (TJ9 k).2.2.1 = some (tyJ9 k) := by decide +kernel
abbrev cJ9_max_7cf53 : ByteArray := prog_24_method_65_code
def yJ9_max_7cf53 : MethodName := ⟨RJ9, "max", "(II)I"⟩
abbrev cJ9_min_7cf53 : ByteArray := prog_24_method_69_code
def yJ9_min_7cf53 : MethodName := ⟨RJ9, "min", "(II)I"⟩
def RJ0 : String := "java/lang/String"
def TJ0 : u_T := fun k => match k with
  | _ => ("", "", "", false)
def tyJ0 : Nat → FieldType := fun k => match k with
  | _ => .int
abbrev wsJ00 : List Cond := u_ws RJ0 TJ0 0
theorem nmJ0 : ∀ a, a < 0 → ∀ b, b < 0 → a ≠ b → (TJ0 a).2.1 ≠ (TJ0 b).2.1 := by decide +kernel
theorem tyJ0_ok : ∀ k, k < 0 → parseFieldDescriptor (TJ0 k).2.2.1 = some (tyJ0 k) := by decide +kernel
abbrev cJ0_length_8abf5 : ByteArray := prog_26_method_54_code
def yJ0_length_8abf5 : MethodName := ⟨RJ0, "length", "()I"⟩
abbrev cJ0_charAt_5068e : ByteArray := prog_26_method_56_code
def yJ0_charAt_5068e : MethodName := ⟨RJ0, "charAt", "(I)C"⟩
abbrev cJ0_coder_7d493 : ByteArray := prog_26_method_152_code
def yJ0_coder_7d493 : MethodName := ⟨RJ0, "coder", "()B"⟩
abbrev cJ0_isLatin1_aae02 : ByteArray := prog_26_method_154_code
def yJ0_isLatin1_aae02 : MethodName := ⟨RJ0, "isLatin1", "()Z"⟩
abbrev cJ0_checkIndex_df160 : ByteArray := prog_26_method_155_code
def yJ0_checkIndex_df160 : MethodName := ⟨RJ0, "checkIndex", "(II)V"⟩
def RJ1 : String := "java/lang/StringLatin1"
def TJ1 : u_T := fun k => match k with
  | _ => ("", "", "", false)
def tyJ1 : Nat → FieldType := fun k => match k with
  | _ => .int
abbrev wsJ10 : List Cond := u_ws RJ1 TJ1 0
theorem nmJ1 : ∀ a, a < 0 → ∀ b, b < 0 → a ≠ b → (TJ1 a).2.1 ≠ (TJ1 b).2.1 := by decide +kernel
theorem tyJ1_ok : ∀ k, k < 0 → parseFieldDescriptor (TJ1 k).2.2.1 = some (tyJ1 k) := by decide +kernel
abbrev cJ1_charAt_3b067 : ByteArray := prog_27_method_2_code
def yJ1_charAt_3b067 : MethodName := ⟨RJ1, "charAt", "([BI)C"⟩
def RJ2 : String := "java/lang/StringUTF16"
def TJ2 : u_T := fun k => match k with
  | _ => ("", "", "", false)
def tyJ2 : Nat → FieldType := fun k => match k with
  | _ => .int
abbrev wsJ20 : List Cond := u_ws RJ2 TJ2 0
theorem nmJ2 : ∀ a, a < 0 → ∀ b, b < 0 → a ≠ b → (TJ2 a).2.1 ≠ (TJ2 b).2.1 := by decide +kernel
theorem tyJ2_ok : ∀ k, k < 0 → parseFieldDescriptor (TJ2 k).2.2.1 = some (tyJ2 k) := by decide +kernel
abbrev cJ2_getChar_3b067 : ByteArray := prog_28_method_5_code
def yJ2_getChar_3b067 : MethodName := ⟨RJ2, "getChar", "([BI)C"⟩
abbrev cJ2_length_9d52b : ByteArray := prog_28_method_6_code
def yJ2_length_9d52b : MethodName := ⟨RJ2, "length", "([B)I"⟩
abbrev cJ2_charAt_3b067 : ByteArray := prog_28_method_83_code
def yJ2_charAt_3b067 : MethodName := ⟨RJ2, "charAt", "([BI)C"⟩
abbrev cJ2_checkIndex_2214a : ByteArray := prog_28_method_91_code
def yJ2_checkIndex_2214a : MethodName := ⟨RJ2, "checkIndex", "(I[B)V"⟩
def RJ10 : String := "java/lang/System"
def TJ10 : u_T := fun k => match k with
  | _ => ("", "", "", false)
def tyJ10 : Nat → FieldType := fun k => match k with
  | _ => .int
abbrev wsJ100 : List Cond := u_ws RJ10 TJ10 0
theorem nmJ10 : ∀ a, a < 0 → ∀ b, b < 0 → a ≠ b → (TJ10 a).2.1 ≠ (TJ10 b).2.1 := by decide +kernel
theorem tyJ10_ok : ∀ k, k < 0 → parseFieldDescriptor (TJ10 k).2.2.1 = some (tyJ10 k) := by decide +kernel
def RJxfd54e : String := "java/lang/constant/Constable"
def TJxfd54e : u_T := fun k => match k with
  | _ => ("", "", "", false)
def tyJxfd54e : Nat → FieldType := fun k => match k with
  | _ => .int
abbrev wsJxfd54e0 : List Cond := u_ws RJxfd54e TJxfd54e 0
theorem nmJxfd54e : ∀ a, a < 0 → ∀ b, b < 0 → a ≠ b → (TJxfd54e a).2.1 ≠ (TJxfd54e b).2.1 := by decide +kernel
theorem tyJxfd54e_ok : ∀ k, k < 0 → parseFieldDescriptor (TJxfd54e k).2.2.1 = some (tyJxfd54e k) := by decide +kernel
def RJx3cf43 : String := "java/lang/constant/ConstantDesc"
def TJx3cf43 : u_T := fun k => match k with
  | _ => ("", "", "", false)
def tyJx3cf43 : Nat → FieldType := fun k => match k with
  | _ => .int
abbrev wsJx3cf430 : List Cond := u_ws RJx3cf43 TJx3cf43 0
theorem nmJx3cf43 : ∀ a, a < 0 → ∀ b, b < 0 → a ≠ b → (TJx3cf43 a).2.1 ≠ (TJx3cf43 b).2.1 := by decide +kernel
theorem tyJx3cf43_ok : ∀ k, k < 0 → parseFieldDescriptor (TJx3cf43 k).2.2.1 = some (tyJx3cf43 k) := by decide +kernel
def RJxa1e45 : String := "java/util/AbstractCollection"
def TJxa1e45 : u_T := fun k => match k with
  | _ => ("", "", "", false)
def tyJxa1e45 : Nat → FieldType := fun k => match k with
  | _ => .int
abbrev wsJxa1e450 : List Cond := u_ws RJxa1e45 TJxa1e45 0
theorem nmJxa1e45 : ∀ a, a < 0 → ∀ b, b < 0 → a ≠ b → (TJxa1e45 a).2.1 ≠ (TJxa1e45 b).2.1 := by decide +kernel
theorem tyJxa1e45_ok : ∀ k, k < 0 → parseFieldDescriptor (TJxa1e45 k).2.2.1 = some (tyJxa1e45 k) := by decide +kernel
abbrev cJxa1e45_init_da8c8 : ByteArray := prog_33_method_1_code
def yJxa1e45_init_da8c8 : MethodName := ⟨RJxa1e45, "<init>", "()V"⟩
def RJxc12de : String := "java/util/AbstractList"
def TJxc12de : u_T := fun k => match k with
  | _ => ("", "", "", false)
def tyJxc12de : Nat → FieldType := fun k => match k with
  | _ => .int
abbrev wsJxc12de0 : List Cond := u_ws RJxc12de TJxc12de 0
theorem nmJxc12de : ∀ a, a < 0 → ∀ b, b < 0 → a ≠ b → (TJxc12de a).2.1 ≠ (TJxc12de b).2.1 := by decide +kernel
theorem tyJxc12de_ok : ∀ k, k < 0 → parseFieldDescriptor (TJxc12de k).2.2.1 = some (tyJxc12de k) := by decide +kernel
abbrev cJxc12de_init_da8c8 : ByteArray := prog_34_method_1_code
def yJxc12de_init_da8c8 : MethodName := ⟨RJxc12de, "<init>", "()V"⟩
def RJx4a65c : String := "java/util/ArrayList"
def TJx4a65c : u_T := fun k => match k with
  | 0 => ("java/util/AbstractList", "modCount", "I", false)
  | 1 => ("java/util/ArrayList", "elementData", "[Ljava/lang/Object;", false)
  | _ => ("java/util/ArrayList", "size", "I", false)
def tyJx4a65c : Nat → FieldType := fun k => match k with
  | 0 => .int
  | 1 => .array (.object "java/lang/Object")
  | _ => .int
abbrev wsJx4a65c0 : List Cond := u_ws RJx4a65c TJx4a65c 3
theorem nmJx4a65c : ∀ a, a < 3 → ∀ b, b < 3 → a ≠ b → (TJx4a65c a).2.1 ≠ (TJx4a65c b).2.1 := by decide +kernel
theorem tyJx4a65c_ok : ∀ k, k < 3 → parseFieldDescriptor (TJx4a65c k).2.2.1 = some (tyJx4a65c k) := by decide +kernel
abbrev cJx4a65c_init_da8c8 : ByteArray := prog_35_method_2_code
def yJx4a65c_init_da8c8 : MethodName := ⟨RJx4a65c, "<init>", "()V"⟩
abbrev cJx4a65c_grow_92f84 : ByteArray := prog_35_method_6_code
def yJx4a65c_grow_92f84 : MethodName := ⟨RJx4a65c, "grow", "(I)[Ljava/lang/Object;"⟩
abbrev cJx4a65c_grow_d5877 : ByteArray := prog_35_method_7_code
def yJx4a65c_grow_d5877 : MethodName := ⟨RJx4a65c, "grow", "()[Ljava/lang/Object;"⟩
abbrev cJx4a65c_size_8abf5 : ByteArray := prog_35_method_8_code
def yJx4a65c_size_8abf5 : MethodName := ⟨RJx4a65c, "size", "()I"⟩
abbrev cJx4a65c_elementData_915e3 : ByteArray := prog_35_method_18_code
def yJx4a65c_elementData_915e3 : MethodName := ⟨RJx4a65c, "elementData", "(I)Ljava/lang/Object;"⟩
abbrev cJx4a65c_get_915e3 : ByteArray := prog_35_method_20_code
def yJx4a65c_get_915e3 : MethodName := ⟨RJx4a65c, "get", "(I)Ljava/lang/Object;"⟩
abbrev cJx4a65c_add_72be8 : ByteArray := prog_35_method_24_code
def yJx4a65c_add_72be8 : MethodName := ⟨RJx4a65c, "add", "(Ljava/lang/Object;[Ljava/lang/Object;I)V"⟩
abbrev cJx4a65c_add_9ea2d : ByteArray := prog_35_method_25_code
def yJx4a65c_add_9ea2d : MethodName := ⟨RJx4a65c, "add", "(Ljava/lang/Object;)Z"⟩
def RJ7 : String := "java/util/Arrays"
def TJ7 : u_T := fun k => match k with
  | _ => ("", "", "", false)
def tyJ7 : Nat → FieldType := fun k => match k with
  | _ => .int
abbrev wsJ70 : List Cond := u_ws RJ7 TJ7 0
theorem nmJ7 : ∀ a, a < 0 → ∀ b, b < 0 → a ≠ b → (TJ7 a).2.1 ≠ (TJ7 b).2.1 := by decide +kernel
theorem tyJ7_ok : ∀ k, k < 0 → parseFieldDescriptor (TJ7 k).2.2.1 = some (tyJ7 k) := by decide +kernel
abbrev cJ7_copyOf_1904c : ByteArray := prog_36_method_119_code
def yJ7_copyOf_1904c : MethodName := ⟨RJ7, "copyOf", "([Ljava/lang/Object;I)[Ljava/lang/Object;"⟩
abbrev cJ7_copyOf_6403c : ByteArray := prog_36_method_120_code
def yJ7_copyOf_6403c : MethodName := ⟨RJ7, "copyOf", "([Ljava/lang/Object;ILjava/lang/Class;)[Ljava/lang/Object;"⟩
def RJx5ef63 : String := "java/util/Collection"
def TJx5ef63 : u_T := fun k => match k with
  | _ => ("", "", "", false)
def tyJx5ef63 : Nat → FieldType := fun k => match k with
  | _ => .int
abbrev wsJx5ef630 : List Cond := u_ws RJx5ef63 TJx5ef63 0
theorem nmJx5ef63 : ∀ a, a < 0 → ∀ b, b < 0 → a ≠ b → (TJx5ef63 a).2.1 ≠ (TJx5ef63 b).2.1 := by decide +kernel
theorem tyJx5ef63_ok : ∀ k, k < 0 → parseFieldDescriptor (TJx5ef63 k).2.2.1 = some (tyJx5ef63 k) := by decide +kernel
def RJxbd725 : String := "java/util/List"
def TJxbd725 : u_T := fun k => match k with
  | _ => ("", "", "", false)
def tyJxbd725 : Nat → FieldType := fun k => match k with
  | _ => .int
abbrev wsJxbd7250 : List Cond := u_ws RJxbd725 TJxbd725 0
theorem nmJxbd725 : ∀ a, a < 0 → ∀ b, b < 0 → a ≠ b → (TJxbd725 a).2.1 ≠ (TJxbd725 b).2.1 := by decide +kernel
theorem tyJxbd725_ok : ∀ k, k < 0 → parseFieldDescriptor (TJxbd725 k).2.2.1 = some (tyJxbd725 k) := by decide +kernel
def RJ15 : String := "java/util/Objects"
def TJ15 : u_T := fun k => match k with
  | _ => ("", "", "", false)
def tyJ15 : Nat → FieldType := fun k => match k with
  | _ => .int
abbrev wsJ150 : List Cond := u_ws RJ15 TJ15 0
theorem nmJ15 : ∀ a, a < 0 → ∀ b, b < 0 → a ≠ b → (TJ15 a).2.1 ≠ (TJ15 b).2.1 := by decide +kernel
theorem tyJ15_ok : ∀ k, k < 0 → parseFieldDescriptor (TJ15 k).2.2.1 = some (tyJ15 k) := by decide +kernel
abbrev cJ15_checkIndex_7cf53 : ByteArray := prog_39_method_17_code
def yJ15_checkIndex_7cf53 : MethodName := ⟨RJ15, "checkIndex", "(II)I"⟩
def RJxf0a74 : String := "java/util/RandomAccess"
def TJxf0a74 : u_T := fun k => match k with
  | _ => ("", "", "", false)
def tyJxf0a74 : Nat → FieldType := fun k => match k with
  | _ => .int
abbrev wsJxf0a740 : List Cond := u_ws RJxf0a74 TJxf0a74 0
theorem nmJxf0a74 : ∀ a, a < 0 → ∀ b, b < 0 → a ≠ b → (TJxf0a74 a).2.1 ≠ (TJxf0a74 b).2.1 := by decide +kernel
theorem tyJxf0a74_ok : ∀ k, k < 0 → parseFieldDescriptor (TJxf0a74 k).2.2.1 = some (tyJxf0a74 k) := by decide +kernel
def RJxa66e6 : String := "java/util/SequencedCollection"
def TJxa66e6 : u_T := fun k => match k with
  | _ => ("", "", "", false)
def tyJxa66e6 : Nat → FieldType := fun k => match k with
  | _ => .int
abbrev wsJxa66e60 : List Cond := u_ws RJxa66e6 TJxa66e6 0
theorem nmJxa66e6 : ∀ a, a < 0 → ∀ b, b < 0 → a ≠ b → (TJxa66e6 a).2.1 ≠ (TJxa66e6 b).2.1 := by decide +kernel
theorem tyJxa66e6_ok : ∀ k, k < 0 → parseFieldDescriptor (TJxa66e6 k).2.2.1 = some (tyJxa66e6 k) := by decide +kernel
def RJ8 : String := "jdk/internal/util/ArraysSupport"
def TJ8 : u_T := fun k => match k with
  | _ => ("", "", "", false)
def tyJ8 : Nat → FieldType := fun k => match k with
  | _ => .int
abbrev wsJ80 : List Cond := u_ws RJ8 TJ8 0
theorem nmJ8 : ∀ a, a < 0 → ∀ b, b < 0 → a ≠ b → (TJ8 a).2.1 ≠ (TJ8 b).2.1 := by decide +kernel
theorem tyJ8_ok : ∀ k, k < 0 → parseFieldDescriptor (TJ8 k).2.2.1 = some (tyJ8 k) := by decide +kernel
abbrev cJ8_newLength_cabcc : ByteArray := prog_42_method_27_code
def yJ8_newLength_cabcc : MethodName := ⟨RJ8, "newLength", "(III)I"⟩
abbrev cJ8_hugeLength_7cf53 : ByteArray := prog_42_method_28_code
def yJ8_hugeLength_7cf53 : MethodName := ⟨RJ8, "hugeLength", "(II)I"⟩
def RJ3 : String := "jdk/internal/util/Preconditions"
def TJ3 : u_T := fun k => match k with
  | _ => ("", "", "", false)
def tyJ3 : Nat → FieldType := fun k => match k with
  | _ => .int
abbrev wsJ30 : List Cond := u_ws RJ3 TJ3 0
theorem nmJ3 : ∀ a, a < 0 → ∀ b, b < 0 → a ≠ b → (TJ3 a).2.1 ≠ (TJ3 b).2.1 := by decide +kernel
theorem tyJ3_ok : ∀ k, k < 0 → parseFieldDescriptor (TJ3 k).2.2.1 = some (tyJ3 k) := by decide +kernel
abbrev cJ3_checkIndex_8e157 : ByteArray := prog_43_method_11_code
def yJ3_checkIndex_8e157 : MethodName := ⟨RJ3, "checkIndex", "(IILjava/util/function/BiFunction;)I"⟩
def RL : String := "PreparedPlansLaw"
abbrev cL_load : ByteArray := method_3_code
def yL_load : MethodName := ⟨RL, "load", "(LPreparedPlans;I[J)I"⟩
abbrev cL_count : ByteArray := method_4_code
def yL_count : MethodName := ⟨RL, "count", "(LPreparedPlans;I[J)I"⟩
abbrev cL_column : ByteArray := method_5_code
def yL_column : MethodName := ⟨RL, "column", "(LPreparedPlans;II[J)I"⟩
abbrev cL_value : ByteArray := method_6_code
def yL_value : MethodName := ⟨RL, "value", "(LPreparedPlans;II[J)I"⟩
abbrev cL_named : ByteArray := method_7_code
def yL_named : MethodName := ⟨RL, "named", "(LPreparedPlans;I[J)I"⟩
abbrev cL_hole : ByteArray := method_8_code
def yL_hole : MethodName := ⟨RL, "hole", "(LPreparedPlans;II[J)I"⟩
abbrev cL_statement : ByteArray := method_9_code
def yL_statement : MethodName := ⟨RL, "statement", "(LPreparedPlans;II[J)I"⟩
abbrev cL_learned : ByteArray := method_10_code
def yL_learned : MethodName := ⟨RL, "learned", "(LPreparedPlans;II[J)I"⟩
abbrev cL_kept : ByteArray := method_11_code
def yL_kept : MethodName := ⟨RL, "kept", "(LPreparedPlans;I[J)I"⟩
abbrev cL_genericCost : ByteArray := method_12_code
def yL_genericCost : MethodName := ⟨RL, "genericCost", "(LPreparedPlans;II[J)I"⟩
abbrev cL_special : ByteArray := method_13_code
def yL_special : MethodName := ⟨RL, "special", "(LPreparedPlans;IIIII[J)I"⟩
abbrev cL_specialCost : ByteArray := method_14_code
def yL_specialCost : MethodName := ⟨RL, "specialCost", "(LPreparedPlans;IIIIII[J)I"⟩
abbrev cL_wouldUse : ByteArray := method_15_code
def yL_wouldUse : MethodName := ⟨RL, "wouldUse", "(LPreparedPlans;IIIII[J)I"⟩
abbrev cL_rows : ByteArray := method_16_code
def yL_rows : MethodName := ⟨RL, "rows", "(LPreparedPlans;IIIII[J)I"⟩
abbrev cL_run : ByteArray := method_17_code
def yL_run : MethodName := ⟨RL, "run", "(LPreparedPlans;IIIII[J)I"⟩
abbrev cL_insert : ByteArray := method_18_code
def yL_insert : MethodName := ⟨RL, "insert", "(LPreparedPlans;IIIII[J)I"⟩
abbrev cL_delete : ByteArray := method_19_code
def yL_delete : MethodName := ⟨RL, "delete", "(LPreparedPlans;I[J)I"⟩
abbrev cL_setIndex : ByteArray := method_20_code
def yL_setIndex : MethodName := ⟨RL, "setIndex", "(LPreparedPlans;IZ[J)I"⟩
abbrev cL_law : ByteArray := code
def yL_law : MethodName := ⟨RL, "law", "([I)Z"⟩
abbrev vwCl : List vw_C := [(RJx4a65c, TJx4a65c, 3), (RX0, TX0, 4), (RX1, TX1, 2), (RX3, TX3, 7), (RX4, TX4, 4), (RX5, TX5, 8), (RX6, TX6, 6), (RX7, TX7, 4), (RX8, TX8, 8), (RX9, TX9, 9), (RX10, TX10, 7), (RX11, TX11, 20)]
end
section
/-! ===== an abstract machine over the kit's rows: what a method's row, a field's, a call's are ===== -/
/-- a cell: an object (its class's place in vwCl, its fields) or an array (may it be written, its type, its length, what it holds); references are names -/
abbrev XC : Type := (Nat × (Nat → Value)) ⊕ (Bool × FieldType × Nat × (Nat → Value))
abbrev XH : Type := Nat → Option XC
/-- a method's instructions: pc, instruction, next pc, target -/
abbrev XK : Type := List (Nat × Instr × Nat × Nat)
/-- own class, name, bytes, locals, return, handlers, instructions -/
abbrev XMI : Type := String × MethodName × ByteArray × Nat × Option FieldType × List (Nat × Nat × Nat × Nat) × XK
/-- the words that hold in every state -/
def x_T : List Cond := lw_tbl.filter goodWord
abbrev x_own (M : XMI) : String := M.1
abbrev x_y (M : XMI) : MethodName := M.2.1
abbrev x_by (M : XMI) : ByteArray := M.2.2.1
abbrev x_nL (M : XMI) : Nat := M.2.2.2.1
abbrev x_ret (M : XMI) : Option FieldType := M.2.2.2.2.1
abbrev x_hh (M : XMI) : List (Nat × Nat × Nat × Nat) := M.2.2.2.2.2.1
abbrev x_k (M : XMI) : XK := M.2.2.2.2.2.2
def x_len : Instr → Nat
  | .bipush _ | .iload _ | .lload _ | .aload _ | .istore _ | .lstore _ | .astore _ | .ldc _ | .newarray _ => 2
  | .sipush _ | .iinc _ _ | .ifCond _ _ | .if_icmp _ _ | .if_acmp _ _ | .goto _ | .ifnull _ | .ifnonnull _ | .getfield _ | .putfield _ | .getstatic _ | .putstatic _ | .invokevirtual _ | .invokespecial _ | .invokestatic _ | .new _ | .anewarray _ | .checkcast _ | .instanceof _ | .ldc_w _ | .ldc2_w _ => 3
  | .tableswitch _ _ _ _ | .lookupswitch _ _ => 0
  | _ => 1
def x_off : Instr → Option Int
  | .ifCond _ o | .if_icmp _ o | .if_acmp _ o | .goto o | .ifnull o | .ifnonnull o => some o
  | _ => none
def x_okE (b : ByteArray) (e : Nat × Instr × Nat × Nat) : Bool :=
  decide (decode b e.1 = .ok (e.2.1, e.2.2.1 - e.1)) && decide (e.1 ≤ e.2.2.1) && (x_len e.2.1 == 0 || x_len e.2.1 == e.2.2.1 - e.1) && (match x_off e.2.1 with | some o => decide ((e.1 : Int) + o = (e.2.2.2 : Int)) | none => true)
def x_okK (b : ByteArray) (K : XK) : Bool := K.all (x_okE b)
def x_at : XK → Nat → Option (Instr × Nat × Nat)
  | [], _ => none
  | e :: t, k => bif Nat.beq e.1 k then some e.2 else x_at t k
theorem x_at_mem : ∀ (K : XK) (k : Nat) (r : Instr × Nat × Nat), x_at K k = some r → (k, r) ∈ K
  | [], k, r, h => by cases h
  | e :: t, k, r, h => by
    unfold x_at at h
    cases hb : Nat.beq e.1 k with
    | true =>
      rw [hb] at h
      have h1 : e.2 = r := Option.some.inj h
      have h2 : e.1 = k := Nat.eq_of_beq_eq_true hb
      rw [← h1, ← h2]
      exact List.mem_cons_self
    | false =>
      rw [hb] at h
      exact List.mem_cons_of_mem _ (x_at_mem t k r h)
/-- a class of the list by its place: name, fields, their number, their types -/
def x_Cl (ci : Nat) (C : String) (T : u_T) (n : Nat) (ty : Nat → FieldType) : Prop :=
  vwCl[ci]? = some (C, T, n) ∧ (∀ w ∈ u_ws C T n, w ∈ x_T) ∧ (∀ k, k < n → parseFieldDescriptor (T k).2.2.1 = some (ty k)) ∧ ∀ a, a < n → ∀ b, b < n → a ≠ b → (T a).2.1 ≠ (T b).2.1
/-- what entry idx of own's pool names: field k, of this type, of the class at place ci -/
def x_FL (own : String) (idx ci k : Nat) (ty : FieldType) (fin : Bool) : Prop :=
  ∃ (C : String) (T : u_T) (n : Nat) (tys : Nat → FieldType), x_Cl ci C T n tys ∧ k < n ∧ tys k = ty ∧ (T k).2.2.2 = fin ∧
    (Cond.fieldLink own idx (T k).1 (T k).2.1 (T k).2.2.1 ∈ x_T ∨ ∃ host, Cond.fieldLinkNest own idx (T k).1 (T k).2.1 (T k).2.2.1 host ∈ lw_tbl)
/-- entry idx of own's pool names the class at place ci, which can be made -/
def x_CN (own : String) (idx ci : Nat) (C : String) (T : u_T) (n : Nat) (ty : Nat → FieldType) : Prop :=
  x_Cl ci C T n ty ∧ Cond.classLink own idx C ∈ x_T ∧ Cond.instantiable C n ∈ x_T ∧ Cond.initialized C ∈ x_T
/-- the checks of a method's row: its bytes, its class, its code among the tables' words -/
def x_ok (M : XMI) : Prop := x_okK (x_by M) (x_k M) = true ∧ x_own M = (x_y M).cls ∧ plainName (x_y M).cls = true
/-- the callee's row: its code is among the words, its descriptor has n parameters -/
def x_Cw (Mc : XMI) (n : Nat) : Prop :=
  (match x_hh Mc with | [] => Cond.code (x_y Mc) (x_by Mc) (x_nL Mc) (x_ret Mc) | hh => Cond.codeWith (x_y Mc) (x_by Mc) (x_nL Mc) (x_ret Mc) hh) ∈ x_T ∧ Cond.initialized (x_y Mc).cls ∈ x_T ∧ ((x_y Mc).cls ≠ "java/lang/invoke/MethodHandle" ∧ (x_y Mc).cls ≠ "java/lang/invoke/VarHandle") ∧ (parseMethodDescriptor (x_y Mc).desc).map (fun d => d.parameters.length) = some n
def x_LV (own : String) (idx n : Nat) (Mc : XMI) : Prop := x_Cw Mc n ∧ x_hh Mc = [] ∧ Cond.methodLink own idx (x_y Mc) ∈ x_T ∧ Cond.instanceMethod (x_y Mc) ∈ x_T ∧ Cond.selects (x_y Mc).cls (x_y Mc) (x_y Mc) ∈ x_T
def x_LS (own : String) (idx n : Nat) (Mc : XMI) : Prop := x_Cw Mc n ∧ x_hh Mc = [] ∧ Cond.static (x_y Mc) ∈ x_T ∧ Cond.methodLink own idx (x_y Mc) ∈ x_T
/-- a static method with handlers -/
def x_LSX (own : String) (idx n : Nat) (Mc : XMI) : Prop := x_Cw Mc n ∧ (∃ a l, x_hh Mc = a :: l) ∧ Cond.static (x_y Mc) ∈ x_T ∧ Cond.methodLink own idx (x_y Mc) ∈ x_T
/-- a static method of a nest mate -/
def x_LSN (own : String) (idx n : Nat) (Mc : XMI) (host : String) : Prop := x_Cw Mc n ∧ x_hh Mc = [] ∧ Cond.static (x_y Mc) ∈ x_T ∧ Cond.methodLinkNest own idx (x_y Mc) host ∈ lw_tbl
/-- a constructor of ours -/
def x_LI (own : String) (idx n : Nat) (Mc : XMI) : Prop := x_Cw Mc n ∧ x_hh Mc = [] ∧ x_ret Mc = none ∧ (x_y Mc).name = "<init>" ∧ Cond.instanceMethod (x_y Mc) ∈ x_T ∧ Cond.methodLink own idx (x_y Mc) ∈ x_T
def x_LIN (own : String) (idx n : Nat) (Mc : XMI) (host : String) : Prop := x_Cw Mc n ∧ x_hh Mc = [] ∧ x_ret Mc = none ∧ (x_y Mc).name = "<init>" ∧ Cond.instanceMethod (x_y Mc) ∈ x_T ∧ Cond.methodLinkNest own idx (x_y Mc) host ∈ lw_tbl
/-- a call whose named method is abstract: the receiver's class has its own -/
def x_LU (own : String) (idx n : Nat) (x : MethodName) (Mc : XMI) : Prop := x_Cw Mc n ∧ x_hh Mc = [] ∧ Cond.methodLink own idx x ∈ x_T ∧ Cond.sameMethod x.cls x.cls x.name x.desc ∈ x_T ∧ Cond.selects (x_y Mc).cls x (x_y Mc) ∈ x_T ∧ Cond.instanceMethod (x_y Mc) ∈ x_T ∧ Cond.declares ⟨x.cls, x.name, x.desc⟩ ∈ lw_tbl ∧ (x.cls ≠ "java/lang/invoke/MethodHandle" ∧ x.cls ≠ "java/lang/invoke/VarHandle") ∧ x.desc = (x_y Mc).desc
end
section
/-! ===== rows of methods, by program ===== -/
def kX11_init : XK := [(0, .aload_n 0, 1, 0), (1, .invokespecial 1, 4, 0), (4, .aload_n 0, 5, 0), (5, .sipush 21600, 8, 0), (8, .newarray .int, 10, 0), (10, .putfield 7, 13, 0), (13, .aload_n 0, 14, 0), (14, .sipush 2400, 17, 0), (17, .newarray .int, 19, 0), (19, .putfield 13, 22, 0), (22, .aload_n 0, 23, 0), (23, .sipush 800, 26, 0), (26, .newarray .int, 28, 0), (28, .putfield 16, 31, 0), (31, .aload_n 0, 32, 0), (32, .iconst (-1), 33, 0), (33, .putfield 19, 36, 0), (36, .aload_n 0, 37, 0), (37, .iconst 4, 38, 0), (38, .newarray .int, 40, 0), (40, .putfield 23, 43, 0), (43, .aload_n 0, 44, 0), (44, .sipush 400, 47, 0), (47, .newarray .boolean, 49, 0), (49, .putfield 26, 52, 0), (52, .aload_n 0, 53, 0), (53, .invokevirtual 30, 56, 0), (56, .iconst 0, 57, 0), (57, .istore_n 1, 58, 0), (58, .iload_n 1, 59, 0), (59, .sipush 2400, 62, 0), (62, .if_icmp .ge 20, 65, 82), (65, .aload_n 0, 66, 0), (66, .iload_n 1, 67, 0), (67, .aload_n 0, 68, 0), (68, .getfield 13, 71, 0), (71, .iload_n 1, 72, 0), (72, .iaload, 73, 0), (73, .invokevirtual 33, 76, 0), (76, .iinc 1 1, 79, 0), (79, .goto (-21), 82, 58), (82, .return_, 83, 0)]
def mX11_init : XMI := (RX11, yX11_init, cX11_init, 2, (none), [], kX11_init)
theorem okX11_init : x_ok mX11_init := ⟨by decide +kernel, rfl, by decide⟩
def kX11_thrown : XK := [(0, .aload_n 0, 1, 0), (1, .getfield 37, 4, 0), (4, .ireturn, 5, 0)]
def mX11_thrown : XMI := (RX11, yX11_thrown, cX11_thrown, 1, (some FieldType.int), [], kX11_thrown)
theorem okX11_thrown : x_ok mX11_thrown := ⟨by decide +kernel, rfl, by decide⟩
def kX11_isIn : XK := [(0, .lload_n 0, 1, 0), (1, .lload_n 2, 2, 0), (2, .lcmp, 3, 0), (3, .ifCond .lt 14, 6, 17), (6, .lload_n 0, 7, 0), (7, .lload 4, 9, 0), (9, .lcmp, 10, 0), (10, .ifCond .gt 7, 13, 17), (13, .iconst 1, 14, 0), (14, .goto 4, 17, 18), (17, .iconst 0, 18, 0), (18, .ireturn, 19, 0)]
def mX11_isIn : XMI := (RX11, yX11_isIn, cX11_isIn, 6, (some FieldType.boolean), [], kX11_isIn)
theorem okX11_isIn : x_ok mX11_isIn := ⟨by decide +kernel, rfl, by decide⟩
def kX11_get : XK := [(0, .aload_n 0, 1, 0), (1, .getfield 7, 4, 0), (4, .sipush 2400, 7, 0), (7, .aload_n 0, 8, 0), (8, .getfield 40, 11, 0), (11, .imul, 12, 0), (12, .iload_n 1, 13, 0), (13, .iadd, 14, 0), (14, .iaload, 15, 0), (15, .ireturn, 16, 0)]
def mX11_get : XMI := (RX11, yX11_get, cX11_get, 2, (some FieldType.int), [], kX11_get)
theorem okX11_get : x_ok mX11_get := ⟨by decide +kernel, rfl, by decide⟩
def kX11_put : XK := [(0, .aload_n 0, 1, 0), (1, .getfield 7, 4, 0), (4, .sipush 2400, 7, 0), (7, .aload_n 0, 8, 0), (8, .getfield 40, 11, 0), (11, .imul, 12, 0), (12, .iload_n 1, 13, 0), (13, .iadd, 14, 0), (14, .iload_n 2, 15, 0), (15, .iastore, 16, 0), (16, .return_, 17, 0)]
def mX11_put : XMI := (RX11, yX11_put, cX11_put, 3, (none), [], kX11_put)
theorem okX11_put : x_ok mX11_put := ⟨by decide +kernel, rfl, by decide⟩
def kX11_add : XK := [(0, .aload_n 0, 1, 0), (1, .getfield 7, 4, 0), (4, .sipush 2400, 7, 0), (7, .aload_n 0, 8, 0), (8, .getfield 40, 11, 0), (11, .imul, 12, 0), (12, .iload_n 1, 13, 0), (13, .iadd, 14, 0), (14, .dup2, 15, 0), (15, .iaload, 16, 0), (16, .iload_n 2, 17, 0), (17, .iadd, 18, 0), (18, .iastore, 19, 0), (19, .return_, 20, 0)]
def mX11_add : XMI := (RX11, yX11_add, cX11_add, 3, (none), [], kX11_add)
theorem okX11_add : x_ok mX11_add := ⟨by decide +kernel, rfl, by decide⟩
def kX11_change : XK := [(0, .aload_n 0, 1, 0), (1, .getfield 40, 4, 0), (4, .iconst 1, 5, 0), (5, .iadd, 6, 0), (6, .bipush 9, 8, 0), (8, .irem, 9, 0), (9, .istore_n 1, 10, 0), (10, .iconst 0, 11, 0), (11, .istore_n 2, 12, 0), (12, .iload_n 2, 13, 0), (13, .sipush 2400, 16, 0), (16, .if_icmp .ge 36, 19, 52), (19, .aload_n 0, 20, 0), (20, .getfield 7, 23, 0), (23, .sipush 2400, 26, 0), (26, .iload_n 1, 27, 0), (27, .imul, 28, 0), (28, .iload_n 2, 29, 0), (29, .iadd, 30, 0), (30, .aload_n 0, 31, 0), (31, .getfield 7, 34, 0), (34, .sipush 2400, 37, 0), (37, .aload_n 0, 38, 0), (38, .getfield 40, 41, 0), (41, .imul, 42, 0), (42, .iload_n 2, 43, 0), (43, .iadd, 44, 0), (44, .iaload, 45, 0), (45, .iastore, 46, 0), (46, .iinc 2 1, 49, 0), (49, .goto (-37), 52, 12), (52, .aload_n 0, 53, 0), (53, .iload_n 1, 54, 0), (54, .putfield 40, 57, 0), (57, .aload_n 0, 58, 0), (58, .aload_n 0, 59, 0), (59, .getfield 43, 62, 0), (62, .bipush 8, 64, 0), (64, .if_icmp .ge 12, 67, 76), (67, .aload_n 0, 68, 0), (68, .getfield 43, 71, 0), (71, .iconst 1, 72, 0), (72, .iadd, 73, 0), (73, .goto 7, 76, 80), (76, .aload_n 0, 77, 0), (77, .getfield 43, 80, 0), (80, .putfield 43, 83, 0), (83, .return_, 84, 0)]
def mX11_change : XMI := (RX11, yX11_change, cX11_change, 3, (none), [], kX11_change)
theorem okX11_change : x_ok mX11_change := ⟨by decide +kernel, rfl, by decide⟩
def kX11_right : XK := [(0, .aload_n 0, 1, 0), (1, .getfield 37, 4, 0), (4, .ifCond .ne 12, 7, 16), (7, .iload_n 1, 8, 0), (8, .ifCond .ne 8, 11, 16), (11, .aload_n 0, 12, 0), (12, .iload_n 2, 13, 0), (13, .putfield 37, 16, 0), (16, .aload_n 0, 17, 0), (17, .getfield 37, 20, 0), (20, .ifCond .ne 7, 23, 27), (23, .iconst 1, 24, 0), (24, .goto 4, 27, 28), (27, .iconst 0, 28, 0), (28, .ireturn, 29, 0)]
def mX11_right : XMI := (RX11, yX11_right, cX11_right, 3, (some FieldType.boolean), [], kX11_right)
theorem okX11_right : x_ok mX11_right := ⟨by decide +kernel, rfl, by decide⟩
def kX11_plain : XK := [(0, .iconst 0, 1, 0), (1, .istore_n 1, 2, 0), (2, .iload_n 1, 3, 0), (3, .sipush 2400, 6, 0), (6, .if_icmp .ge 16, 9, 22), (9, .aload_n 0, 10, 0), (10, .getfield 13, 13, 0), (13, .iload_n 1, 14, 0), (14, .iconst 0, 15, 0), (15, .iastore, 16, 0), (16, .iinc 1 1, 19, 0), (19, .goto (-17), 22, 2), (22, .aload_n 0, 23, 0), (23, .getfield 13, 26, 0), (26, .iconst 4, 27, 0), (27, .iconst 1, 28, 0), (28, .iastore, 29, 0), (29, .aload_n 0, 30, 0), (30, .getfield 13, 33, 0), (33, .iconst 5, 34, 0), (34, .iconst 3, 35, 0), (35, .iastore, 36, 0), (36, .aload_n 0, 37, 0), (37, .getfield 13, 40, 0), (40, .bipush 6, 42, 0), (42, .iconst 2, 43, 0), (43, .iastore, 44, 0), (44, .aload_n 0, 45, 0), (45, .getfield 13, 48, 0), (48, .bipush 7, 50, 0), (50, .iconst 3, 51, 0), (51, .iastore, 52, 0), (52, .return_, 53, 0)]
def mX11_plain : XMI := (RX11, yX11_plain, cX11_plain, 2, (none), [], kX11_plain)
theorem okX11_plain : x_ok mX11_plain := ⟨by decide +kernel, rfl, by decide⟩
def kX11_columnAt : XK := [(0, .bipush 10, 2, 0), (2, .bipush 13, 4, 0), (4, .iload_n 0, 5, 0), (5, .imul, 6, 0), (6, .iadd, 7, 0), (7, .iload_n 1, 8, 0), (8, .iadd, 9, 0), (9, .ireturn, 10, 0)]
def mX11_columnAt : XMI := (RX11, yX11_columnAt, cX11_columnAt, 2, (some FieldType.int), [], kX11_columnAt)
theorem okX11_columnAt : x_ok mX11_columnAt := ⟨by decide +kernel, rfl, by decide⟩
def kX11_valueAt : XK := [(0, .bipush 75, 2, 0), (2, .iconst 5, 3, 0), (3, .iload_n 0, 4, 0), (4, .imul, 5, 0), (5, .iadd, 6, 0), (6, .iload_n 1, 7, 0), (7, .iadd, 8, 0), (8, .ireturn, 9, 0)]
def mX11_valueAt : XMI := (RX11, yX11_valueAt, cX11_valueAt, 2, (some FieldType.int), [], kX11_valueAt)
theorem okX11_valueAt : x_ok mX11_valueAt := ⟨by decide +kernel, rfl, by decide⟩
def kX11_statementAt : XK := [(0, .sipush 275, 3, 0), (3, .bipush 30, 5, 0), (5, .iload_n 0, 6, 0), (6, .imul, 7, 0), (7, .iadd, 8, 0), (8, .iload_n 1, 9, 0), (9, .iadd, 10, 0), (10, .ireturn, 11, 0)]
def mX11_statementAt : XMI := (RX11, yX11_statementAt, cX11_statementAt, 2, (some FieldType.int), [], kX11_statementAt)
theorem okX11_statementAt : x_ok mX11_statementAt := ⟨by decide +kernel, rfl, by decide⟩
def kX11_codeAt : XK := [(0, .sipush 455, 3, 0), (3, .bipush 6, 5, 0), (5, .iload_n 0, 6, 0), (6, .imul, 7, 0), (7, .iadd, 8, 0), (8, .iload_n 1, 9, 0), (9, .iadd, 10, 0), (10, .ireturn, 11, 0)]
def mX11_codeAt : XMI := (RX11, yX11_codeAt, cX11_codeAt, 2, (some FieldType.int), [], kX11_codeAt)
theorem okX11_codeAt : x_ok mX11_codeAt := ⟨by decide +kernel, rfl, by decide⟩
def kX11_ofColumn : XK := [(0, .aload_n 0, 1, 0), (1, .iload_n 1, 2, 0), (2, .iload_n 2, 3, 0), (3, .invokestatic 46, 6, 0), (6, .invokevirtual 50, 9, 0), (9, .ireturn, 10, 0)]
def mX11_ofColumn : XMI := (RX11, yX11_ofColumn, cX11_ofColumn, 3, (some FieldType.int), [], kX11_ofColumn)
theorem okX11_ofColumn : x_ok mX11_ofColumn := ⟨by decide +kernel, rfl, by decide⟩
def kX11_ofStatement : XK := [(0, .aload_n 0, 1, 0), (1, .iload_n 1, 2, 0), (2, .iload_n 2, 3, 0), (3, .invokestatic 54, 6, 0), (6, .invokevirtual 50, 9, 0), (9, .ireturn, 10, 0)]
def mX11_ofStatement : XMI := (RX11, yX11_ofStatement, cX11_ofStatement, 3, (some FieldType.int), [], kX11_ofStatement)
theorem okX11_ofStatement : x_ok mX11_ofStatement := ⟨by decide +kernel, rfl, by decide⟩
def kX11_ofCode : XK := [(0, .aload_n 0, 1, 0), (1, .iload_n 1, 2, 0), (2, .iload_n 2, 3, 0), (3, .invokestatic 57, 6, 0), (6, .invokevirtual 50, 9, 0), (9, .ireturn, 10, 0)]
def mX11_ofCode : XMI := (RX11, yX11_ofCode, cX11_ofCode, 3, (some FieldType.int), [], kX11_ofCode)
theorem okX11_ofCode : x_ok mX11_ofCode := ⟨by decide +kernel, rfl, by decide⟩
def kX11_mostOf : XK := [(0, .iload_n 0, 1, 0), (1, .ifCond .ne 9, 4, 10), (4, .sipush 9999, 7, 0), (7, .goto 15, 10, 22), (10, .iload_n 0, 11, 0), (11, .iconst 1, 12, 0), (12, .if_icmp .ne 9, 15, 21), (15, .sipush 999, 18, 0), (18, .goto 4, 21, 22), (21, .iconst 1, 22, 0), (22, .ireturn, 23, 0)]
def mX11_mostOf : XMI := (RX11, yX11_mostOf, cX11_mostOf, 1, (some FieldType.int), [], kX11_mostOf)
theorem okX11_mostOf : x_ok mX11_mostOf := ⟨by decide +kernel, rfl, by decide⟩
def kX11_append : XK := [(0, .aload_n 0, 1, 0), (1, .iconst 0, 2, 0), (2, .putfield 37, 5, 0), (5, .aload_n 0, 6, 0), (6, .getfield 60, 9, 0), (9, .bipush 20, 11, 0), (11, .iadd, 12, 0), (12, .sipush 800, 15, 0), (15, .if_icmp .le 5, 18, 20), (18, .iconst (-1), 19, 0), (19, .ireturn, 20, 0), (20, .iconst 0, 21, 0), (21, .istore 6, 23, 0), (23, .iload 6, 25, 0), (25, .bipush 20, 27, 0), (27, .if_icmp .ge 86, 30, 113), (30, .iload 6, 32, 0), (32, .iconst 4, 33, 0), (33, .if_icmp .ge 7, 36, 40), (36, .iload_n 1, 37, 0), (37, .goto 39, 40, 76), (40, .iload 6, 42, 0), (42, .bipush 8, 44, 0), (44, .if_icmp .ge 7, 47, 51), (47, .iload_n 2, 48, 0), (48, .goto 28, 51, 76), (51, .iload 6, 53, 0), (53, .bipush 12, 55, 0), (55, .if_icmp .ge 7, 58, 62), (58, .iload_n 3, 59, 0), (59, .goto 17, 62, 76), (62, .iload 6, 64, 0), (64, .bipush 16, 66, 0), (66, .if_icmp .ge 8, 69, 74), (69, .iload 4, 71, 0), (71, .goto 5, 74, 76), (74, .iload 5, 76, 0), (76, .istore 7, 78, 0), (78, .aload_n 0, 79, 0), (79, .getfield 16, 82, 0), (82, .aload_n 0, 83, 0), (83, .getfield 60, 86, 0), (86, .iload 6, 88, 0), (88, .iadd, 89, 0), (89, .iload 7, 91, 0), (91, .bipush 24, 93, 0), (93, .bipush 8, 95, 0), (95, .iload 6, 97, 0), (97, .iconst 4, 98, 0), (98, .irem, 99, 0), (99, .imul, 100, 0), (100, .isub, 101, 0), (101, .ishr, 102, 0), (102, .sipush 255, 105, 0), (105, .iand, 106, 0), (106, .iastore, 107, 0), (107, .iinc 6 1, 110, 0), (110, .goto (-87), 113, 23), (113, .aload_n 0, 114, 0), (114, .dup, 115, 0), (115, .getfield 60, 118, 0), (118, .bipush 20, 120, 0), (120, .iadd, 121, 0), (121, .putfield 60, 124, 0), (124, .aload_n 0, 125, 0), (125, .getfield 60, 128, 0), (128, .ireturn, 129, 0)]
def mX11_append : XMI := (RX11, yX11_append, cX11_append, 8, (some FieldType.int), [], kX11_append)
theorem okX11_append : x_ok mX11_append := ⟨by decide +kernel, rfl, by decide⟩
def kX11_fails : XK := [(0, .aload_n 0, 1, 0), (1, .getfield 63, 4, 0), (4, .ifCond .eq 4, 7, 8), (7, .return_, 8, 0), (8, .aload_n 0, 9, 0), (9, .iload_n 1, 10, 0), (10, .putfield 63, 13, 0), (13, .aload_n 0, 14, 0), (14, .iload_n 2, 15, 0), (15, .putfield 66, 18, 0), (18, .return_, 19, 0)]
def mX11_fails : XMI := (RX11, yX11_fails, cX11_fails, 3, (none), [], kX11_fails)
theorem okX11_fails : x_ok mX11_fails := ⟨by decide +kernel, rfl, by decide⟩
def kX11_sees : XK := [(0, .aload_n 0, 1, 0), (1, .getfield 69, 4, 0), (4, .aload_n 0, 5, 0), (5, .getfield 72, 8, 0), (8, .if_icmp .ge 30, 11, 38), (11, .aload_n 0, 12, 0), (12, .getfield 16, 15, 0), (15, .aload_n 0, 16, 0), (16, .getfield 69, 19, 0), (19, .iaload, 20, 0), (20, .bipush 32, 22, 0), (22, .if_icmp .ne 16, 25, 38), (25, .aload_n 0, 26, 0), (26, .dup, 27, 0), (27, .getfield 69, 30, 0), (30, .iconst 1, 31, 0), (31, .iadd, 32, 0), (32, .putfield 69, 35, 0), (35, .goto (-35), 38, 0), (38, .aload_n 0, 39, 0), (39, .getfield 69, 42, 0), (42, .aload_n 0, 43, 0), (43, .getfield 72, 46, 0), (46, .if_icmp .ge 15, 49, 61), (49, .aload_n 0, 50, 0), (50, .getfield 16, 53, 0), (53, .aload_n 0, 54, 0), (54, .getfield 69, 57, 0), (57, .iaload, 58, 0), (58, .goto 4, 61, 62), (61, .iconst (-1), 62, 0), (62, .ireturn, 63, 0)]
def mX11_sees : XMI := (RX11, yX11_sees, cX11_sees, 1, (some FieldType.int), [], kX11_sees)
theorem okX11_sees : x_ok mX11_sees := ⟨by decide +kernel, rfl, by decide⟩
def kX11_isLetterOf : XK := [(0, .iload_n 0, 1, 0), (1, .bipush 97, 3, 0), (3, .if_icmp .lt 13, 6, 16), (6, .iload_n 0, 7, 0), (7, .bipush 122, 9, 0), (9, .if_icmp .gt 7, 12, 16), (12, .iconst 1, 13, 0), (13, .goto 4, 16, 17), (16, .iconst 0, 17, 0), (17, .ireturn, 18, 0)]
def mX11_isLetterOf : XMI := (RX11, yX11_isLetterOf, cX11_isLetterOf, 1, (some FieldType.boolean), [], kX11_isLetterOf)
theorem okX11_isLetterOf : x_ok mX11_isLetterOf := ⟨by decide +kernel, rfl, by decide⟩
def kX11_wordEnd : XK := [(0, .aload_n 0, 1, 0), (1, .invokevirtual 75, 4, 0), (4, .pop, 5, 0), (5, .aload_n 0, 6, 0), (6, .getfield 69, 9, 0), (9, .istore_n 1, 10, 0), (10, .iload_n 1, 11, 0), (11, .aload_n 0, 12, 0), (12, .getfield 72, 15, 0), (15, .if_icmp .ge 21, 18, 36), (18, .aload_n 0, 19, 0), (19, .getfield 16, 22, 0), (22, .iload_n 1, 23, 0), (23, .iaload, 24, 0), (24, .invokestatic 79, 27, 0), (27, .ifCond .eq 9, 30, 36), (30, .iinc 1 1, 33, 0), (33, .goto (-23), 36, 10), (36, .iload_n 1, 37, 0), (37, .ireturn, 38, 0)]
def mX11_wordEnd : XMI := (RX11, yX11_wordEnd, cX11_wordEnd, 2, (some FieldType.int), [], kX11_wordEnd)
theorem okX11_wordEnd : x_ok mX11_wordEnd := ⟨by decide +kernel, rfl, by decide⟩
def kX11_isHere : XK := [(0, .aload_n 0, 1, 0), (1, .getfield 63, 4, 0), (4, .ifCond .eq 5, 7, 9), (7, .iconst 0, 8, 0), (8, .ireturn, 9, 0), (9, .aload_n 0, 10, 0), (10, .invokevirtual 83, 13, 0), (13, .istore_n 2, 14, 0), (14, .iload_n 2, 15, 0), (15, .aload_n 0, 16, 0), (16, .getfield 69, 19, 0), (19, .isub, 20, 0), (20, .aload_n 1, 21, 0), (21, .invokevirtual 86, 24, 0), (24, .if_icmp .ne 7, 27, 31), (27, .iconst 1, 28, 0), (28, .goto 4, 31, 32), (31, .iconst 0, 32, 0), (32, .istore_n 3, 33, 0), (33, .iconst 0, 34, 0), (34, .istore 4, 36, 0), (36, .iload_n 3, 37, 0), (37, .ifCond .eq 45, 40, 82), (40, .iload 4, 42, 0), (42, .aload_n 1, 43, 0), (43, .invokevirtual 86, 46, 0), (46, .if_icmp .ge 36, 49, 82), (49, .aload_n 0, 50, 0), (50, .getfield 16, 53, 0), (53, .aload_n 0, 54, 0), (54, .getfield 69, 57, 0), (57, .iload 4, 59, 0), (59, .iadd, 60, 0), (60, .iaload, 61, 0), (61, .aload_n 1, 62, 0), (62, .iload 4, 64, 0), (64, .invokevirtual 91, 67, 0), (67, .if_icmp .ne 7, 70, 74), (70, .iconst 1, 71, 0), (71, .goto 4, 74, 75), (74, .iconst 0, 75, 0), (75, .istore_n 3, 76, 0), (76, .iinc 4 1, 79, 0), (79, .goto (-43), 82, 36), (82, .iload_n 3, 83, 0), (83, .ireturn, 84, 0)]
def mX11_isHere : XMI := (RX11, yX11_isHere, cX11_isHere, 5, (some FieldType.boolean), [], kX11_isHere)
theorem okX11_isHere : x_ok mX11_isHere := ⟨by decide +kernel, rfl, by decide⟩
def kX11_takes : XK := [(0, .aload_n 0, 1, 0), (1, .aload_n 1, 2, 0), (2, .invokevirtual 95, 5, 0), (5, .istore_n 2, 6, 0), (6, .iload_n 2, 7, 0), (7, .ifCond .eq 16, 10, 23), (10, .aload_n 0, 11, 0), (11, .dup, 12, 0), (12, .getfield 69, 15, 0), (15, .aload_n 1, 16, 0), (16, .invokevirtual 86, 19, 0), (19, .iadd, 20, 0), (20, .putfield 69, 23, 0), (23, .iload_n 2, 24, 0), (24, .ireturn, 25, 0)]
def mX11_takes : XMI := (RX11, yX11_takes, cX11_takes, 3, (some FieldType.boolean), [], kX11_takes)
theorem okX11_takes : x_ok mX11_takes := ⟨by decide +kernel, rfl, by decide⟩
def kX11_wants : XK := [(0, .aload_n 0, 1, 0), (1, .getfield 63, 4, 0), (4, .ifCond .eq 4, 7, 8), (7, .return_, 8, 0), (8, .aload_n 0, 9, 0), (9, .invokevirtual 75, 12, 0), (12, .iload_n 1, 13, 0), (13, .if_icmp .eq 16, 16, 29), (16, .aload_n 0, 17, 0), (17, .bipush (-2), 19, 0), (19, .aload_n 0, 20, 0), (20, .getfield 69, 23, 0), (23, .invokevirtual 99, 26, 0), (26, .goto 13, 29, 39), (29, .aload_n 0, 30, 0), (30, .dup, 31, 0), (31, .getfield 69, 34, 0), (34, .iconst 1, 35, 0), (35, .iadd, 36, 0), (36, .putfield 69, 39, 0), (39, .return_, 40, 0)]
def mX11_wants : XMI := (RX11, yX11_wants, cX11_wants, 2, (none), [], kX11_wants)
theorem okX11_wants : x_ok mX11_wants := ⟨by decide +kernel, rfl, by decide⟩
def kX11_isDigit : XK := [(0, .aload_n 0, 1, 0), (1, .invokevirtual 75, 4, 0), (4, .bipush 48, 6, 0), (6, .if_icmp .lt 16, 9, 22), (9, .aload_n 0, 10, 0), (10, .invokevirtual 75, 13, 0), (13, .bipush 57, 15, 0), (15, .if_icmp .gt 7, 18, 22), (18, .iconst 1, 19, 0), (19, .goto 4, 22, 23), (22, .iconst 0, 23, 0), (23, .ireturn, 24, 0)]
def mX11_isDigit : XMI := (RX11, yX11_isDigit, cX11_isDigit, 1, (some FieldType.boolean), [], kX11_isDigit)
theorem okX11_isDigit : x_ok mX11_isDigit := ⟨by decide +kernel, rfl, by decide⟩
def kX11_reads : XK := [(0, .aload_n 0, 1, 0), (1, .getfield 63, 4, 0), (4, .ifCond .eq 5, 7, 9), (7, .iconst 0, 8, 0), (8, .ireturn, 9, 0), (9, .aload_n 0, 10, 0), (10, .invokevirtual 102, 13, 0), (13, .ifCond .ne 15, 16, 28), (16, .aload_n 0, 17, 0), (17, .bipush (-2), 19, 0), (19, .aload_n 0, 20, 0), (20, .getfield 69, 23, 0), (23, .invokevirtual 99, 26, 0), (26, .iconst 0, 27, 0), (27, .ireturn, 28, 0), (28, .aload_n 0, 29, 0), (29, .aload_n 0, 30, 0), (30, .getfield 69, 33, 0), (33, .putfield 106, 36, 0), (36, .iconst 0, 37, 0), (37, .istore_n 3, 38, 0), (38, .aload_n 0, 39, 0), (39, .getfield 69, 42, 0), (42, .aload_n 0, 43, 0), (43, .getfield 72, 46, 0), (46, .if_icmp .ge 67, 49, 113), (49, .aload_n 0, 50, 0), (50, .getfield 16, 53, 0), (53, .aload_n 0, 54, 0), (54, .getfield 69, 57, 0), (57, .iaload, 58, 0), (58, .bipush 48, 60, 0), (60, .if_icmp .lt 53, 63, 113), (63, .aload_n 0, 64, 0), (64, .getfield 16, 67, 0), (67, .aload_n 0, 68, 0), (68, .getfield 69, 71, 0), (71, .iaload, 72, 0), (72, .bipush 57, 74, 0), (74, .if_icmp .gt 39, 77, 113), (77, .ldc 109, 79, 0), (79, .bipush 10, 81, 0), (81, .iload_n 3, 82, 0), (82, .imul, 83, 0), (83, .aload_n 0, 84, 0), (84, .getfield 16, 87, 0), (87, .aload_n 0, 88, 0), (88, .getfield 69, 91, 0), (91, .iaload, 92, 0), (92, .iadd, 93, 0), (93, .bipush 48, 95, 0), (95, .isub, 96, 0), (96, .invokestatic 110, 99, 0), (99, .istore_n 3, 100, 0), (100, .aload_n 0, 101, 0), (101, .dup, 102, 0), (102, .getfield 69, 105, 0), (105, .iconst 1, 106, 0), (106, .iadd, 107, 0), (107, .putfield 69, 110, 0), (110, .goto (-72), 113, 38), (113, .iload_n 3, 114, 0), (114, .i2l, 115, 0), (115, .iload_n 1, 116, 0), (116, .i2l, 117, 0), (117, .iload_n 2, 118, 0), (118, .i2l, 119, 0), (119, .invokestatic 115, 122, 0), (122, .ifCond .ne 13, 125, 135), (125, .aload_n 0, 126, 0), (126, .bipush (-3), 128, 0), (128, .aload_n 0, 129, 0), (129, .getfield 106, 132, 0), (132, .invokevirtual 99, 135, 0), (135, .aload_n 0, 136, 0), (136, .getfield 63, 139, 0), (139, .ifCond .ne 7, 142, 146), (142, .iload_n 3, 143, 0), (143, .goto 4, 146, 147), (146, .iconst 0, 147, 0), (147, .ireturn, 148, 0)]
def mX11_reads : XMI := (RX11, yX11_reads, cX11_reads, 4, (some FieldType.int), [], kX11_reads)
theorem okX11_reads : x_ok mX11_reads := ⟨by decide +kernel, rfl, by decide⟩
def kX11_isName : XK := [(0, .aload_n 0, 1, 0), (1, .invokevirtual 83, 4, 0), (4, .istore_n 1, 5, 0), (5, .aload_n 0, 6, 0), (6, .getfield 63, 9, 0), (9, .ifCond .ne 53, 12, 62), (12, .iload_n 1, 13, 0), (13, .aload_n 0, 14, 0), (14, .getfield 69, 17, 0), (17, .if_icmp .le 45, 20, 62), (20, .iload_n 1, 21, 0), (21, .aload_n 0, 22, 0), (22, .getfield 69, 25, 0), (25, .isub, 26, 0), (26, .bipush 8, 28, 0), (28, .if_icmp .gt 34, 31, 62), (31, .aload_n 0, 32, 0), (32, .ldc 119, 34, 0), (34, .invokevirtual 95, 37, 0), (37, .ifCond .ne 25, 40, 62), (40, .aload_n 0, 41, 0), (41, .ldc 121, 43, 0), (43, .invokevirtual 95, 46, 0), (46, .ifCond .ne 16, 49, 62), (49, .aload_n 0, 50, 0), (50, .ldc 123, 52, 0), (52, .invokevirtual 95, 55, 0), (55, .ifCond .ne 7, 58, 62), (58, .iconst 1, 59, 0), (59, .goto 4, 62, 63), (62, .iconst 0, 63, 0), (63, .ireturn, 64, 0)]
def mX11_isName : XMI := (RX11, yX11_isName, cX11_isName, 2, (some FieldType.boolean), [], kX11_isName)
theorem okX11_isName : x_ok mX11_isName := ⟨by decide +kernel, rfl, by decide⟩
def kX11_reach : XK := [(0, .aload_n 0, 1, 0), (1, .aload_n 0, 2, 0), (2, .getfield 69, 5, 0), (5, .putfield 125, 8, 0), (8, .aload_n 0, 9, 0), (9, .aload_n 0, 10, 0), (10, .invokevirtual 83, 13, 0), (13, .putfield 128, 16, 0), (16, .return_, 17, 0)]
def mX11_reach : XMI := (RX11, yX11_reach, cX11_reach, 1, (none), [], kX11_reach)
theorem okX11_reach : x_ok mX11_reach := ⟨by decide +kernel, rfl, by decide⟩
def kX11_nameInto : XK := [(0, .iconst 0, 1, 0), (1, .istore_n 2, 2, 0), (2, .iload_n 2, 3, 0), (3, .bipush 8, 5, 0), (5, .if_icmp .ge 45, 8, 50), (8, .aload_n 0, 9, 0), (9, .getfield 13, 12, 0), (12, .iload_n 1, 13, 0), (13, .iload_n 2, 14, 0), (14, .iadd, 15, 0), (15, .aload_n 0, 16, 0), (16, .getfield 125, 19, 0), (19, .iload_n 2, 20, 0), (20, .iadd, 21, 0), (21, .aload_n 0, 22, 0), (22, .getfield 128, 25, 0), (25, .if_icmp .ge 17, 28, 42), (28, .aload_n 0, 29, 0), (29, .getfield 16, 32, 0), (32, .aload_n 0, 33, 0), (33, .getfield 125, 36, 0), (36, .iload_n 2, 37, 0), (37, .iadd, 38, 0), (38, .iaload, 39, 0), (39, .goto 4, 42, 43), (42, .iconst 0, 43, 0), (43, .iastore, 44, 0), (44, .iinc 2 1, 47, 0), (47, .goto (-45), 50, 2), (50, .return_, 51, 0)]
def mX11_nameInto : XMI := (RX11, yX11_nameInto, cX11_nameInto, 3, (none), [], kX11_nameInto)
theorem okX11_nameInto : x_ok mX11_nameInto := ⟨by decide +kernel, rfl, by decide⟩
def kX11_seek : XK := [(0, .iconst (-1), 1, 0), (1, .istore 4, 3, 0), (3, .iconst 0, 4, 0), (4, .istore 5, 6, 0), (6, .iload 5, 8, 0), (8, .iload_n 3, 9, 0), (9, .if_icmp .ge 106, 12, 115), (12, .iload 4, 14, 0), (14, .iconst (-1), 15, 0), (15, .if_icmp .ne 100, 18, 115), (18, .iconst 1, 19, 0), (19, .istore 6, 21, 0), (21, .iconst 0, 22, 0), (22, .istore 7, 24, 0), (24, .iload 7, 26, 0), (26, .bipush 8, 28, 0), (28, .if_icmp .ge 68, 31, 96), (31, .iload 6, 33, 0), (33, .ifCond .eq 63, 36, 96), (36, .aload_n 0, 37, 0), (37, .getfield 13, 40, 0), (40, .iload_n 1, 41, 0), (41, .iload_n 2, 42, 0), (42, .iload 5, 44, 0), (44, .imul, 45, 0), (45, .iadd, 46, 0), (46, .iload 7, 48, 0), (48, .iadd, 49, 0), (49, .iaload, 50, 0), (50, .aload_n 0, 51, 0), (51, .getfield 125, 54, 0), (54, .iload 7, 56, 0), (56, .iadd, 57, 0), (57, .aload_n 0, 58, 0), (58, .getfield 128, 61, 0), (61, .if_icmp .ge 18, 64, 79), (64, .aload_n 0, 65, 0), (65, .getfield 16, 68, 0), (68, .aload_n 0, 69, 0), (69, .getfield 125, 72, 0), (72, .iload 7, 74, 0), (74, .iadd, 75, 0), (75, .iaload, 76, 0), (76, .goto 4, 79, 80), (79, .iconst 0, 80, 0), (80, .if_icmp .ne 7, 83, 87), (83, .iconst 1, 84, 0), (84, .goto 4, 87, 88), (87, .iconst 0, 88, 0), (88, .istore 6, 90, 0), (90, .iinc 7 1, 93, 0), (93, .goto (-69), 96, 24), (96, .iload 6, 98, 0), (98, .ifCond .eq 8, 101, 106), (101, .iload 5, 103, 0), (103, .goto 4, 106, 107), (106, .iconst (-1), 107, 0), (107, .istore 4, 109, 0), (109, .iinc 5 1, 112, 0), (112, .goto (-106), 115, 6), (115, .iload 4, 117, 0), (117, .ireturn, 118, 0)]
def mX11_seek : XMI := (RX11, yX11_seek, cX11_seek, 8, (some FieldType.int), [], kX11_seek)
theorem okX11_seek : x_ok mX11_seek := ⟨by decide +kernel, rfl, by decide⟩
def kX11_freshName : XK := [(0, .aload_n 0, 1, 0), (1, .getfield 63, 4, 0), (4, .ifCond .eq 4, 7, 8), (7, .return_, 8, 0), (8, .aload_n 0, 9, 0), (9, .invokevirtual 131, 12, 0), (12, .ifCond .ne 14, 15, 26), (15, .aload_n 0, 16, 0), (16, .bipush (-2), 18, 0), (18, .aload_n 0, 19, 0), (19, .getfield 69, 22, 0), (22, .invokevirtual 99, 25, 0), (25, .return_, 26, 0), (26, .aload_n 0, 27, 0), (27, .invokevirtual 134, 30, 0), (30, .aload_n 0, 31, 0), (31, .iload_n 1, 32, 0), (32, .iload_n 2, 33, 0), (33, .iload_n 3, 34, 0), (34, .invokevirtual 137, 37, 0), (37, .iconst (-1), 38, 0), (38, .if_icmp .eq 13, 41, 51), (41, .aload_n 0, 42, 0), (42, .bipush (-5), 44, 0), (44, .aload_n 0, 45, 0), (45, .getfield 125, 48, 0), (48, .invokevirtual 99, 51, 0), (51, .aload_n 0, 52, 0), (52, .iload_n 1, 53, 0), (53, .iload_n 2, 54, 0), (54, .iload_n 3, 55, 0), (55, .imul, 56, 0), (56, .iadd, 57, 0), (57, .invokevirtual 141, 60, 0), (60, .aload_n 0, 61, 0), (61, .aload_n 0, 62, 0), (62, .getfield 128, 65, 0), (65, .putfield 69, 68, 0), (68, .return_, 69, 0)]
def mX11_freshName : XMI := (RX11, yX11_freshName, cX11_freshName, 4, (none), [], kX11_freshName)
theorem okX11_freshName : x_ok mX11_freshName := ⟨by decide +kernel, rfl, by decide⟩
def kX11_knownColumn : XK := [(0, .aload_n 0, 1, 0), (1, .getfield 63, 4, 0), (4, .ifCond .eq 5, 7, 9), (7, .iconst (-1), 8, 0), (8, .ireturn, 9, 0), (9, .aload_n 0, 10, 0), (10, .invokevirtual 131, 13, 0), (13, .ifCond .ne 15, 16, 28), (16, .aload_n 0, 17, 0), (17, .bipush (-2), 19, 0), (19, .aload_n 0, 20, 0), (20, .getfield 69, 23, 0), (23, .invokevirtual 99, 26, 0), (26, .iconst (-1), 27, 0), (27, .ireturn, 28, 0), (28, .aload_n 0, 29, 0), (29, .invokevirtual 134, 32, 0), (32, .aload_n 0, 33, 0), (33, .bipush 10, 35, 0), (35, .bipush 13, 37, 0), (37, .aload_n 0, 38, 0), (38, .getfield 13, 41, 0), (41, .iconst 0, 42, 0), (42, .iaload, 43, 0), (43, .invokevirtual 137, 46, 0), (46, .istore_n 1, 47, 0), (47, .iload_n 1, 48, 0), (48, .iconst (-1), 49, 0), (49, .if_icmp .ne 13, 52, 62), (52, .aload_n 0, 53, 0), (53, .bipush (-4), 55, 0), (55, .aload_n 0, 56, 0), (56, .getfield 125, 59, 0), (59, .invokevirtual 99, 62, 0), (62, .aload_n 0, 63, 0), (63, .aload_n 0, 64, 0), (64, .getfield 128, 67, 0), (67, .putfield 69, 70, 0), (70, .iload_n 1, 71, 0), (71, .ireturn, 72, 0)]
def mX11_knownColumn : XMI := (RX11, yX11_knownColumn, cX11_knownColumn, 2, (some FieldType.int), [], kX11_knownColumn)
theorem okX11_knownColumn : x_ok mX11_knownColumn := ⟨by decide +kernel, rfl, by decide⟩
def kX11_codes : XK := [(0, .aload_n 0, 1, 0), (1, .getfield 13, 4, 0), (4, .bipush 9, 6, 0), (6, .iaload, 7, 0), (7, .istore_n 3, 8, 0), (8, .aload_n 0, 9, 0), (9, .getfield 13, 12, 0), (12, .iload_n 3, 13, 0), (13, .iconst 0, 14, 0), (14, .invokestatic 57, 17, 0), (17, .iload_n 1, 18, 0), (18, .iastore, 19, 0), (19, .aload_n 0, 20, 0), (20, .getfield 13, 23, 0), (23, .iload_n 3, 24, 0), (24, .iconst 5, 25, 0), (25, .invokestatic 57, 28, 0), (28, .iload_n 2, 29, 0), (29, .iastore, 30, 0), (30, .aload_n 0, 31, 0), (31, .getfield 13, 34, 0), (34, .bipush 9, 36, 0), (36, .dup2, 37, 0), (37, .iaload, 38, 0), (38, .iconst 1, 39, 0), (39, .iadd, 40, 0), (40, .iastore, 41, 0), (41, .iload_n 3, 42, 0), (42, .ireturn, 43, 0)]
def mX11_codes : XMI := (RX11, yX11_codes, cX11_codes, 4, (some FieldType.int), [], kX11_codes)
theorem okX11_codes : x_ok mX11_codes := ⟨by decide +kernel, rfl, by decide⟩
def kX11_condition : XK := [(0, .aload_n 0, 1, 0), (1, .getfield 13, 4, 0), (4, .bipush 9, 6, 0), (6, .iaload, 7, 0), (7, .istore_n 2, 8, 0), (8, .aload_n 0, 9, 0), (9, .iload_n 1, 10, 0), (10, .invokevirtual 145, 13, 0), (13, .iconst 1, 14, 0), (14, .istore_n 3, 15, 0), (15, .aload_n 0, 16, 0), (16, .getfield 63, 19, 0), (19, .ifCond .ne 67, 22, 86), (22, .aload_n 0, 23, 0), (23, .ldc 119, 25, 0), (25, .invokevirtual 149, 28, 0), (28, .ifCond .eq 58, 31, 86), (31, .iload_n 3, 32, 0), (32, .ifCond .eq 36, 35, 68), (35, .iload_n 2, 36, 0), (36, .istore 4, 38, 0), (38, .iload 4, 40, 0), (40, .aload_n 0, 41, 0), (41, .getfield 13, 44, 0), (44, .bipush 9, 46, 0), (46, .iaload, 47, 0), (47, .if_icmp .ge 21, 50, 68), (50, .aload_n 0, 51, 0), (51, .getfield 13, 54, 0), (54, .iload 4, 56, 0), (56, .iconst 5, 57, 0), (57, .invokestatic 57, 60, 0), (60, .iconst 0, 61, 0), (61, .iastore, 62, 0), (62, .iinc 4 1, 65, 0), (65, .goto (-27), 68, 38), (68, .iconst 0, 69, 0), (69, .istore_n 3, 70, 0), (70, .aload_n 0, 71, 0), (71, .iconst 0, 72, 0), (72, .invokevirtual 145, 75, 0), (75, .aload_n 0, 76, 0), (76, .iconst 2, 77, 0), (77, .iconst 0, 78, 0), (78, .invokevirtual 152, 81, 0), (81, .istore 4, 83, 0), (83, .goto (-68), 86, 15), (86, .return_, 87, 0)]
def mX11_condition : XMI := (RX11, yX11_condition, cX11_condition, 5, (none), [], kX11_condition)
theorem okX11_condition : x_ok mX11_condition := ⟨by decide +kernel, rfl, by decide⟩
def kX11_term : XK := [(0, .aload_n 0, 1, 0), (1, .iload_n 1, 2, 0), (2, .invokevirtual 155, 5, 0), (5, .aload_n 0, 6, 0), (6, .getfield 63, 9, 0), (9, .ifCond .ne 27, 12, 36), (12, .aload_n 0, 13, 0), (13, .ldc 121, 15, 0), (15, .invokevirtual 149, 18, 0), (18, .ifCond .eq 18, 21, 36), (21, .aload_n 0, 22, 0), (22, .iload_n 1, 23, 0), (23, .invokevirtual 155, 26, 0), (26, .aload_n 0, 27, 0), (27, .iconst 1, 28, 0), (28, .iconst 0, 29, 0), (29, .invokevirtual 152, 32, 0), (32, .istore_n 2, 33, 0), (33, .goto (-28), 36, 5), (36, .return_, 37, 0)]
def mX11_term : XMI := (RX11, yX11_term, cX11_term, 3, (none), [], kX11_term)
theorem okX11_term : x_ok mX11_term := ⟨by decide +kernel, rfl, by decide⟩
def kX11_deepens : XK := [(0, .aload_n 0, 1, 0), (1, .getfield 158, 4, 0), (4, .bipush 6, 6, 0), (6, .if_icmp .ne 13, 9, 19), (9, .aload_n 0, 10, 0), (10, .bipush (-8), 12, 0), (12, .aload_n 0, 13, 0), (13, .getfield 69, 16, 0), (16, .invokevirtual 99, 19, 0), (19, .aload_n 0, 20, 0), (20, .dup, 21, 0), (21, .getfield 158, 24, 0), (24, .iconst 1, 25, 0), (25, .iadd, 26, 0), (26, .putfield 158, 29, 0), (29, .aload_n 0, 30, 0), (30, .getfield 63, 33, 0), (33, .ifCond .ne 7, 36, 40), (36, .iconst 1, 37, 0), (37, .goto 4, 40, 41), (40, .iconst 0, 41, 0), (41, .ireturn, 42, 0)]
def mX11_deepens : XMI := (RX11, yX11_deepens, cX11_deepens, 1, (some FieldType.boolean), [], kX11_deepens)
theorem okX11_deepens : x_ok mX11_deepens := ⟨by decide +kernel, rfl, by decide⟩
def kX11_factor : XK := [(0, .aload_n 0, 1, 0), (1, .getfield 63, 4, 0), (4, .ifCond .eq 4, 7, 8), (7, .return_, 8, 0), (8, .aload_n 0, 9, 0), (9, .ldc 123, 11, 0), (11, .invokevirtual 95, 14, 0), (14, .ifCond .eq 43, 17, 57), (17, .aload_n 0, 18, 0), (18, .invokevirtual 161, 21, 0), (21, .ifCond .ne 4, 24, 25), (24, .return_, 25, 0), (25, .aload_n 0, 26, 0), (26, .ldc 123, 28, 0), (28, .invokevirtual 149, 31, 0), (31, .istore_n 2, 32, 0), (32, .aload_n 0, 33, 0), (33, .iconst 0, 34, 0), (34, .invokevirtual 155, 37, 0), (37, .aload_n 0, 38, 0), (38, .dup, 39, 0), (39, .getfield 158, 42, 0), (42, .iconst 1, 43, 0), (43, .isub, 44, 0), (44, .putfield 158, 47, 0), (47, .aload_n 0, 48, 0), (48, .iconst 3, 49, 0), (49, .iconst 0, 50, 0), (50, .invokevirtual 152, 53, 0), (53, .istore_n 3, 54, 0), (54, .goto 59, 57, 113), (57, .aload_n 0, 58, 0), (58, .invokevirtual 75, 61, 0), (61, .bipush 40, 63, 0), (63, .if_icmp .ne 45, 66, 108), (66, .aload_n 0, 67, 0), (67, .invokevirtual 161, 70, 0), (70, .ifCond .ne 4, 73, 74), (73, .return_, 74, 0), (74, .aload_n 0, 75, 0), (75, .dup, 76, 0), (76, .getfield 69, 79, 0), (79, .iconst 1, 80, 0), (80, .iadd, 81, 0), (81, .putfield 69, 84, 0), (84, .aload_n 0, 85, 0), (85, .iload_n 1, 86, 0), (86, .invokevirtual 164, 89, 0), (89, .aload_n 0, 90, 0), (90, .bipush 41, 92, 0), (92, .invokevirtual 167, 95, 0), (95, .aload_n 0, 96, 0), (96, .dup, 97, 0), (97, .getfield 158, 100, 0), (100, .iconst 1, 101, 0), (101, .isub, 102, 0), (102, .putfield 158, 105, 0), (105, .goto 8, 108, 113), (108, .aload_n 0, 109, 0), (109, .iload_n 1, 110, 0), (110, .invokevirtual 170, 113, 0), (113, .return_, 114, 0)]
def mX11_factor : XMI := (RX11, yX11_factor, cX11_factor, 4, (none), [], kX11_factor)
theorem okX11_factor : x_ok mX11_factor := ⟨by decide +kernel, rfl, by decide⟩
def kX11_comparison : XK := [(0, .aload_n 0, 1, 0), (1, .invokevirtual 173, 4, 0), (4, .istore_n 2, 5, 0), (5, .aload_n 0, 6, 0), (6, .getfield 63, 9, 0), (9, .ifCond .eq 4, 12, 13), (12, .return_, 13, 0), (13, .aload_n 0, 14, 0), (14, .invokevirtual 75, 17, 0), (17, .istore_n 3, 18, 0), (18, .iload_n 3, 19, 0), (19, .bipush 60, 21, 0), (21, .if_icmp .eq 26, 24, 47), (24, .iload_n 3, 25, 0), (25, .bipush 61, 27, 0), (27, .if_icmp .eq 20, 30, 47), (30, .iload_n 3, 31, 0), (31, .bipush 62, 33, 0), (33, .if_icmp .eq 14, 36, 47), (36, .aload_n 0, 37, 0), (37, .bipush (-2), 39, 0), (39, .aload_n 0, 40, 0), (40, .getfield 69, 43, 0), (43, .invokevirtual 99, 46, 0), (46, .return_, 47, 0), (47, .aload_n 0, 48, 0), (48, .dup, 49, 0), (49, .getfield 69, 52, 0), (52, .iconst 1, 53, 0), (53, .iadd, 54, 0), (54, .putfield 69, 57, 0), (57, .aload_n 0, 58, 0), (58, .getfield 13, 61, 0), (61, .iload_n 2, 62, 0), (62, .bipush 8, 64, 0), (64, .invokestatic 46, 67, 0), (67, .iaload, 68, 0), (68, .istore 4, 70, 0), (70, .aload_n 0, 71, 0), (71, .invokevirtual 102, 74, 0), (74, .ifCond .eq 7, 77, 81), (77, .iconst 0, 78, 0), (78, .goto 17, 81, 95), (81, .aload_n 0, 82, 0), (82, .invokevirtual 75, 85, 0), (85, .bipush 63, 87, 0), (87, .if_icmp .ne 7, 90, 94), (90, .iconst 2, 91, 0), (91, .goto 4, 94, 95), (94, .iconst 1, 95, 0), (95, .istore 5, 97, 0), (97, .iload 5, 99, 0), (99, .ifCond .ne 16, 102, 115), (102, .aload_n 0, 103, 0), (103, .iconst 0, 104, 0), (104, .iload 4, 106, 0), (106, .invokestatic 176, 109, 0), (109, .invokevirtual 179, 112, 0), (112, .goto 24, 115, 136), (115, .iload 5, 117, 0), (117, .iconst 2, 118, 0), (118, .if_icmp .ne 12, 121, 130), (121, .aload_n 0, 122, 0), (122, .iload 4, 124, 0), (124, .invokevirtual 182, 127, 0), (127, .goto 9, 130, 136), (130, .aload_n 0, 131, 0), (131, .iload 4, 133, 0), (133, .invokevirtual 185, 136, 0), (136, .istore 6, 138, 0), (138, .aload_n 0, 139, 0), (139, .getfield 63, 142, 0), (142, .ifCond .eq 4, 145, 146), (145, .return_, 146, 0), (146, .aload_n 0, 147, 0), (147, .iconst 0, 148, 0), (148, .iload_n 1, 149, 0), (149, .ifCond .eq 13, 152, 162), (152, .iload 5, 154, 0), (154, .iconst 1, 155, 0), (155, .if_icmp .eq 7, 158, 162), (158, .iconst 1, 159, 0), (159, .goto 4, 162, 163), (162, .iconst 0, 163, 0), (163, .invokevirtual 152, 166, 0), (166, .istore 7, 168, 0), (168, .aload_n 0, 169, 0), (169, .getfield 13, 172, 0), (172, .iload 7, 174, 0), (174, .iconst 1, 175, 0), (175, .invokestatic 57, 178, 0), (178, .iload_n 2, 179, 0), (179, .iastore, 180, 0), (180, .aload_n 0, 181, 0), (181, .getfield 13, 184, 0), (184, .iload 7, 186, 0), (186, .iconst 2, 187, 0), (187, .invokestatic 57, 190, 0), (190, .iload_n 3, 191, 0), (191, .iastore, 192, 0), (192, .aload_n 0, 193, 0), (193, .getfield 13, 196, 0), (196, .iload 7, 198, 0), (198, .iconst 3, 199, 0), (199, .invokestatic 57, 202, 0), (202, .iload 5, 204, 0), (204, .iastore, 205, 0), (205, .aload_n 0, 206, 0), (206, .getfield 13, 209, 0), (209, .iload 7, 211, 0), (211, .iconst 4, 212, 0), (212, .invokestatic 57, 215, 0), (215, .iload 6, 217, 0), (217, .iastore, 218, 0), (218, .return_, 219, 0)]
def mX11_comparison : XMI := (RX11, yX11_comparison, cX11_comparison, 8, (none), [], kX11_comparison)
theorem okX11_comparison : x_ok mX11_comparison := ⟨by decide +kernel, rfl, by decide⟩
def kX11_holeHere : XK := [(0, .aload_n 0, 1, 0), (1, .getfield 69, 4, 0), (4, .istore_n 2, 5, 0), (5, .aload_n 0, 6, 0), (6, .dup, 7, 0), (7, .getfield 69, 10, 0), (10, .iconst 1, 11, 0), (11, .iadd, 12, 0), (12, .putfield 69, 15, 0), (15, .aload_n 0, 16, 0), (16, .iconst 0, 17, 0), (17, .iconst 3, 18, 0), (18, .invokevirtual 179, 21, 0), (21, .istore_n 3, 22, 0), (22, .aload_n 0, 23, 0), (23, .getfield 63, 26, 0), (26, .ifCond .eq 5, 29, 31), (29, .iconst 0, 30, 0), (30, .ireturn, 31, 0), (31, .aload_n 0, 32, 0), (32, .getfield 188, 35, 0), (35, .bipush 17, 37, 0), (37, .iload_n 3, 38, 0), (38, .iadd, 39, 0), (39, .invokestatic 54, 42, 0), (42, .istore 4, 44, 0), (44, .aload_n 0, 45, 0), (45, .getfield 13, 48, 0), (48, .iload 4, 50, 0), (50, .iaload, 51, 0), (51, .iconst (-1), 52, 0), (52, .if_icmp .eq 21, 55, 73), (55, .aload_n 0, 56, 0), (56, .getfield 13, 59, 0), (59, .iload 4, 61, 0), (61, .iaload, 62, 0), (62, .iload_n 1, 63, 0), (63, .if_icmp .eq 10, 66, 73), (66, .aload_n 0, 67, 0), (67, .bipush (-6), 69, 0), (69, .iload_n 2, 70, 0), (70, .invokevirtual 99, 73, 0), (73, .aload_n 0, 74, 0), (74, .getfield 13, 77, 0), (77, .iload 4, 79, 0), (79, .iload_n 1, 80, 0), (80, .iastore, 81, 0), (81, .iload_n 3, 82, 0), (82, .ireturn, 83, 0)]
def mX11_holeHere : XMI := (RX11, yX11_holeHere, cX11_holeHere, 5, (some FieldType.int), [], kX11_holeHere)
theorem okX11_holeHere : x_ok mX11_holeHere := ⟨by decide +kernel, rfl, by decide⟩
def kX11_columnHere : XK := [(0, .aload_n 0, 1, 0), (1, .invokevirtual 173, 4, 0), (4, .istore_n 2, 5, 0), (5, .aload_n 0, 6, 0), (6, .getfield 63, 9, 0), (9, .ifCond .ne 28, 12, 37), (12, .aload_n 0, 13, 0), (13, .getfield 13, 16, 0), (16, .iload_n 2, 17, 0), (17, .bipush 8, 19, 0), (19, .invokestatic 46, 22, 0), (22, .iaload, 23, 0), (23, .iload_n 1, 24, 0), (24, .if_icmp .eq 13, 27, 37), (27, .aload_n 0, 28, 0), (28, .bipush (-6), 30, 0), (30, .aload_n 0, 31, 0), (31, .getfield 125, 34, 0), (34, .invokevirtual 99, 37, 0), (37, .iload_n 2, 38, 0), (38, .ireturn, 39, 0)]
def mX11_columnHere : XMI := (RX11, yX11_columnHere, cX11_columnHere, 3, (some FieldType.int), [], kX11_columnHere)
theorem okX11_columnHere : x_ok mX11_columnHere := ⟨by decide +kernel, rfl, by decide⟩
def kX11_columnLine : XK := [(0, .aload_n 0, 1, 0), (1, .getfield 13, 4, 0), (4, .iconst 0, 5, 0), (5, .iaload, 6, 0), (6, .iconst 5, 7, 0), (7, .if_icmp .ne 10, 10, 17), (10, .aload_n 0, 11, 0), (11, .bipush (-7), 13, 0), (13, .iload_n 1, 14, 0), (14, .invokevirtual 99, 17, 0), (17, .aload_n 0, 18, 0), (18, .getfield 13, 21, 0), (21, .iconst 0, 22, 0), (22, .iaload, 23, 0), (23, .istore_n 2, 24, 0), (24, .aload_n 0, 25, 0), (25, .bipush 10, 27, 0), (27, .bipush 13, 29, 0), (29, .iload_n 2, 30, 0), (30, .invokevirtual 191, 33, 0), (33, .aload_n 0, 34, 0), (34, .getfield 63, 37, 0), (37, .ifCond .eq 4, 40, 41), (40, .return_, 41, 0), (41, .aload_n 0, 42, 0), (42, .ldc 195, 44, 0), (44, .invokevirtual 149, 47, 0), (47, .ifCond .eq 7, 50, 54), (50, .iconst 0, 51, 0), (51, .goto 30, 54, 81), (54, .aload_n 0, 55, 0), (55, .ldc 197, 57, 0), (57, .invokevirtual 149, 60, 0), (60, .ifCond .eq 7, 63, 67), (63, .iconst 1, 64, 0), (64, .goto 17, 67, 81), (67, .aload_n 0, 68, 0), (68, .ldc 199, 70, 0), (70, .invokevirtual 149, 73, 0), (73, .ifCond .eq 7, 76, 80), (76, .iconst 2, 77, 0), (77, .goto 4, 80, 81), (80, .iconst (-1), 81, 0), (81, .istore_n 3, 82, 0), (82, .iload_n 3, 83, 0), (83, .iconst (-1), 84, 0), (84, .if_icmp .ne 13, 87, 97), (87, .aload_n 0, 88, 0), (88, .bipush (-2), 90, 0), (90, .aload_n 0, 91, 0), (91, .getfield 69, 94, 0), (94, .invokevirtual 99, 97, 0), (97, .aload_n 0, 98, 0), (98, .getfield 13, 101, 0), (101, .iload_n 2, 102, 0), (102, .bipush 8, 104, 0), (104, .invokestatic 46, 107, 0), (107, .iload_n 3, 108, 0), (108, .iastore, 109, 0), (109, .aload_n 0, 110, 0), (110, .bipush 59, 112, 0), (112, .invokevirtual 167, 115, 0), (115, .aload_n 0, 116, 0), (116, .getfield 13, 119, 0), (119, .iconst 0, 120, 0), (120, .dup2, 121, 0), (121, .iaload, 122, 0), (122, .iconst 1, 123, 0), (123, .iadd, 124, 0), (124, .iastore, 125, 0), (125, .return_, 126, 0)]
def mX11_columnLine : XMI := (RX11, yX11_columnLine, cX11_columnLine, 4, (none), [], kX11_columnLine)
theorem okX11_columnLine : x_ok mX11_columnLine := ⟨by decide +kernel, rfl, by decide⟩
def kX11_indexLine : XK := [(0, .aload_n 0, 1, 0), (1, .invokevirtual 173, 4, 0), (4, .istore_n 1, 5, 0), (5, .aload_n 0, 6, 0), (6, .getfield 63, 9, 0), (9, .ifCond .eq 4, 12, 13), (12, .return_, 13, 0), (13, .aload_n 0, 14, 0), (14, .getfield 13, 17, 0), (17, .iload_n 1, 18, 0), (18, .bipush 9, 20, 0), (20, .invokestatic 46, 23, 0), (23, .iaload, 24, 0), (24, .iconst 1, 25, 0), (25, .if_icmp .ne 13, 28, 38), (28, .aload_n 0, 29, 0), (29, .bipush (-5), 31, 0), (31, .aload_n 0, 32, 0), (32, .getfield 125, 35, 0), (35, .invokevirtual 99, 38, 0), (38, .aload_n 0, 39, 0), (39, .getfield 13, 42, 0), (42, .iload_n 1, 43, 0), (43, .bipush 9, 45, 0), (45, .invokestatic 46, 48, 0), (48, .iconst 1, 49, 0), (49, .iastore, 50, 0), (50, .aload_n 0, 51, 0), (51, .bipush 59, 53, 0), (53, .invokevirtual 167, 56, 0), (56, .return_, 57, 0)]
def mX11_indexLine : XMI := (RX11, yX11_indexLine, cX11_indexLine, 2, (none), [], kX11_indexLine)
theorem okX11_indexLine : x_ok mX11_indexLine := ⟨by decide +kernel, rfl, by decide⟩
def kX11_rowLine : XK := [(0, .aload_n 0, 1, 0), (1, .getfield 13, 4, 0), (4, .iconst 0, 5, 0), (5, .iaload, 6, 0), (6, .ifCond .ne 10, 9, 16), (9, .aload_n 0, 10, 0), (10, .bipush (-2), 12, 0), (12, .iload_n 1, 13, 0), (13, .invokevirtual 99, 16, 0), (16, .aload_n 0, 17, 0), (17, .getfield 13, 20, 0), (20, .iconst 1, 21, 0), (21, .iaload, 22, 0), (22, .bipush 40, 24, 0), (24, .if_icmp .ne 10, 27, 34), (27, .aload_n 0, 28, 0), (28, .bipush (-7), 30, 0), (30, .iload_n 1, 31, 0), (31, .invokevirtual 99, 34, 0), (34, .iconst 0, 35, 0), (35, .istore_n 2, 36, 0), (36, .iload_n 2, 37, 0), (37, .aload_n 0, 38, 0), (38, .getfield 13, 41, 0), (41, .iconst 0, 42, 0), (42, .iaload, 43, 0), (43, .if_icmp .ge 50, 46, 93), (46, .aload_n 0, 47, 0), (47, .getfield 63, 50, 0), (50, .ifCond .ne 43, 53, 93), (53, .aload_n 0, 54, 0), (54, .getfield 13, 57, 0), (57, .aload_n 0, 58, 0), (58, .getfield 13, 61, 0), (61, .iconst 1, 62, 0), (62, .iaload, 63, 0), (63, .iload_n 2, 64, 0), (64, .invokestatic 201, 67, 0), (67, .aload_n 0, 68, 0), (68, .iconst 0, 69, 0), (69, .aload_n 0, 70, 0), (70, .getfield 13, 73, 0), (73, .iload_n 2, 74, 0), (74, .bipush 8, 76, 0), (76, .invokestatic 46, 79, 0), (79, .iaload, 80, 0), (80, .invokestatic 176, 83, 0), (83, .invokevirtual 179, 86, 0), (86, .iastore, 87, 0), (87, .iinc 2 1, 90, 0), (90, .goto (-54), 93, 36), (93, .aload_n 0, 94, 0), (94, .bipush 59, 96, 0), (96, .invokevirtual 167, 99, 0), (99, .aload_n 0, 100, 0), (100, .getfield 63, 103, 0), (103, .ifCond .ne 13, 106, 116), (106, .aload_n 0, 107, 0), (107, .getfield 13, 110, 0), (110, .iconst 1, 111, 0), (111, .dup2, 112, 0), (112, .iaload, 113, 0), (113, .iconst 1, 114, 0), (114, .iadd, 115, 0), (115, .iastore, 116, 0), (116, .return_, 117, 0)]
def mX11_rowLine : XMI := (RX11, yX11_rowLine, cX11_rowLine, 3, (none), [], kX11_rowLine)
theorem okX11_rowLine : x_ok mX11_rowLine := ⟨by decide +kernel, rfl, by decide⟩
def kX11_prepareLine : XK := [(0, .aload_n 0, 1, 0), (1, .getfield 13, 4, 0), (4, .iconst 2, 5, 0), (5, .iaload, 6, 0), (6, .bipush 6, 8, 0), (8, .if_icmp .ne 10, 11, 18), (11, .aload_n 0, 12, 0), (12, .bipush (-7), 14, 0), (14, .iload_n 1, 15, 0), (15, .invokevirtual 99, 18, 0), (18, .aload_n 0, 19, 0), (19, .aload_n 0, 20, 0), (20, .getfield 13, 23, 0), (23, .iconst 2, 24, 0), (24, .iaload, 25, 0), (25, .putfield 188, 28, 0), (28, .aload_n 0, 29, 0), (29, .getfield 63, 32, 0), (32, .ifCond .eq 4, 35, 36), (35, .return_, 36, 0), (36, .aload_n 0, 37, 0), (37, .sipush 275, 40, 0), (40, .bipush 30, 42, 0), (42, .aload_n 0, 43, 0), (43, .getfield 188, 46, 0), (46, .invokevirtual 191, 49, 0), (49, .iconst 0, 50, 0), (50, .istore_n 2, 51, 0), (51, .iload_n 2, 52, 0), (52, .iconst 4, 53, 0), (53, .if_icmp .ge 26, 56, 79), (56, .aload_n 0, 57, 0), (57, .getfield 13, 60, 0), (60, .aload_n 0, 61, 0), (61, .getfield 188, 64, 0), (64, .bipush 17, 66, 0), (66, .iload_n 2, 67, 0), (67, .iadd, 68, 0), (68, .invokestatic 54, 71, 0), (71, .iconst (-1), 72, 0), (72, .iastore, 73, 0), (73, .iinc 2 1, 76, 0), (76, .goto (-25), 79, 51), (79, .iconst 0, 80, 0), (80, .istore_n 2, 81, 0), (81, .iload_n 2, 82, 0), (82, .iconst 5, 83, 0), (83, .if_icmp .ge 27, 86, 110), (86, .aload_n 0, 87, 0), (87, .getfield 13, 90, 0), (90, .aload_n 0, 91, 0), (91, .getfield 188, 94, 0), (94, .bipush 21, 96, 0), (96, .iload_n 2, 97, 0), (97, .iadd, 98, 0), (98, .invokestatic 54, 101, 0), (101, .bipush 100, 103, 0), (103, .iastore, 104, 0), (104, .iinc 2 1, 107, 0), (107, .goto (-26), 110, 81), (110, .aload_n 0, 111, 0), (111, .getfield 13, 114, 0), (114, .aload_n 0, 115, 0), (115, .getfield 188, 118, 0), (118, .bipush 14, 120, 0), (120, .invokestatic 54, 123, 0), (123, .bipush (-2), 125, 0), (125, .iastore, 126, 0), (126, .aload_n 0, 127, 0), (127, .getfield 13, 130, 0), (130, .aload_n 0, 131, 0), (131, .getfield 188, 134, 0), (134, .bipush 26, 136, 0), (136, .invokestatic 54, 139, 0), (139, .aload_n 0, 140, 0), (140, .getfield 13, 143, 0), (143, .bipush 9, 145, 0), (145, .iaload, 146, 0), (146, .iastore, 147, 0), (147, .aload_n 0, 148, 0), (148, .getfield 63, 151, 0), (151, .ifCond .ne 8, 154, 159), (154, .aload_n 0, 155, 0), (155, .iconst 1, 156, 0), (156, .invokevirtual 164, 159, 0), (159, .aload_n 0, 160, 0), (160, .bipush 59, 162, 0), (162, .invokevirtual 167, 165, 0), (165, .aload_n 0, 166, 0), (166, .getfield 13, 169, 0), (169, .aload_n 0, 170, 0), (170, .getfield 188, 173, 0), (173, .bipush 27, 175, 0), (175, .invokestatic 54, 178, 0), (178, .aload_n 0, 179, 0), (179, .getfield 13, 182, 0), (182, .bipush 9, 184, 0), (184, .iaload, 185, 0), (185, .iastore, 186, 0), (186, .aload_n 0, 187, 0), (187, .getfield 63, 190, 0), (190, .ifCond .ne 13, 193, 203), (193, .aload_n 0, 194, 0), (194, .getfield 13, 197, 0), (197, .iconst 2, 198, 0), (198, .dup2, 199, 0), (199, .iaload, 200, 0), (200, .iconst 1, 201, 0), (201, .iadd, 202, 0), (202, .iastore, 203, 0), (203, .return_, 204, 0)]
def mX11_prepareLine : XMI := (RX11, yX11_prepareLine, cX11_prepareLine, 3, (none), [], kX11_prepareLine)
theorem okX11_prepareLine : x_ok mX11_prepareLine := ⟨by decide +kernel, rfl, by decide⟩
def kX11_costLine : XK := [(0, .aload_n 0, 1, 0), (1, .iconst 0, 2, 0), (2, .bipush 99, 4, 0), (4, .invokevirtual 179, 7, 0), (7, .istore_n 1, 8, 0), (8, .aload_n 0, 9, 0), (9, .iconst 0, 10, 0), (10, .bipush 99, 12, 0), (12, .invokevirtual 179, 15, 0), (15, .istore_n 2, 16, 0), (16, .aload_n 0, 17, 0), (17, .iconst 0, 18, 0), (18, .bipush 99, 20, 0), (20, .invokevirtual 179, 23, 0), (23, .istore_n 3, 24, 0), (24, .aload_n 0, 25, 0), (25, .bipush 59, 27, 0), (27, .invokevirtual 167, 30, 0), (30, .aload_n 0, 31, 0), (31, .getfield 63, 34, 0), (34, .ifCond .eq 4, 37, 38), (37, .return_, 38, 0), (38, .aload_n 0, 39, 0), (39, .getfield 13, 42, 0), (42, .iconst 4, 43, 0), (43, .iload_n 1, 44, 0), (44, .iastore, 45, 0), (45, .aload_n 0, 46, 0), (46, .getfield 13, 49, 0), (49, .iconst 5, 50, 0), (50, .iload_n 2, 51, 0), (51, .iastore, 52, 0), (52, .aload_n 0, 53, 0), (53, .getfield 13, 56, 0), (56, .bipush 6, 58, 0), (58, .iload_n 3, 59, 0), (59, .iastore, 60, 0), (60, .return_, 61, 0)]
def mX11_costLine : XMI := (RX11, yX11_costLine, cX11_costLine, 4, (none), [], kX11_costLine)
theorem okX11_costLine : x_ok mX11_costLine := ⟨by decide +kernel, rfl, by decide⟩
def kX11_triesLine : XK := [(0, .aload_n 0, 1, 0), (1, .iconst 0, 2, 0), (2, .bipush 99, 4, 0), (4, .invokevirtual 179, 7, 0), (7, .istore_n 1, 8, 0), (8, .aload_n 0, 9, 0), (9, .bipush 59, 11, 0), (11, .invokevirtual 167, 14, 0), (14, .aload_n 0, 15, 0), (15, .getfield 63, 18, 0), (18, .ifCond .ne 11, 21, 29), (21, .aload_n 0, 22, 0), (22, .getfield 13, 25, 0), (25, .bipush 7, 27, 0), (27, .iload_n 1, 28, 0), (28, .iastore, 29, 0), (29, .return_, 30, 0)]
def mX11_triesLine : XMI := (RX11, yX11_triesLine, cX11_triesLine, 2, (none), [], kX11_triesLine)
theorem okX11_triesLine : x_ok mX11_triesLine := ⟨by decide +kernel, rfl, by decide⟩
def kX11_startOf : XK := [(0, .aload_n 0, 1, 0), (1, .invokevirtual 75, 4, 0), (4, .pop, 5, 0), (5, .aload_n 0, 6, 0), (6, .getfield 69, 9, 0), (9, .istore_n 2, 10, 0), (10, .aload_n 0, 11, 0), (11, .aload_n 1, 12, 0), (12, .invokevirtual 149, 15, 0), (15, .ifCond .eq 7, 18, 22), (18, .iload_n 2, 19, 0), (19, .goto 4, 22, 23), (22, .iconst (-1), 23, 0), (23, .ireturn, 24, 0)]
def mX11_startOf : XMI := (RX11, yX11_startOf, cX11_startOf, 3, (some FieldType.int), [], kX11_startOf)
theorem okX11_startOf : x_ok mX11_startOf := ⟨by decide +kernel, rfl, by decide⟩
def kX11_texts : XK := [(0, .aload_n 0, 1, 0), (1, .invokevirtual 30, 4, 0), (4, .aload_n 0, 5, 0), (5, .iconst 0, 6, 0), (6, .putfield 69, 9, 0), (9, .aload_n 0, 10, 0), (10, .iconst 0, 11, 0), (11, .putfield 63, 14, 0), (14, .aload_n 0, 15, 0), (15, .iconst 0, 16, 0), (16, .putfield 158, 19, 0), (19, .aload_n 0, 20, 0), (20, .ldc 204, 22, 0), (22, .invokevirtual 149, 25, 0), (25, .ifCond .ne 13, 28, 38), (28, .aload_n 0, 29, 0), (29, .bipush (-2), 31, 0), (31, .aload_n 0, 32, 0), (32, .getfield 69, 35, 0), (35, .invokevirtual 99, 38, 0), (38, .aload_n 0, 39, 0), (39, .bipush 59, 41, 0), (41, .invokevirtual 167, 44, 0), (44, .aload_n 0, 45, 0), (45, .ldc 206, 47, 0), (47, .invokevirtual 208, 50, 0), (50, .istore_n 1, 51, 0), (51, .iload_n 1, 52, 0), (52, .iconst (-1), 53, 0), (53, .if_icmp .eq 18, 56, 71), (56, .aload_n 0, 57, 0), (57, .iload_n 1, 58, 0), (58, .invokevirtual 212, 61, 0), (61, .aload_n 0, 62, 0), (62, .ldc 206, 64, 0), (64, .invokevirtual 208, 67, 0), (67, .istore_n 1, 68, 0), (68, .goto (-17), 71, 51), (71, .aload_n 0, 72, 0), (72, .ldc 215, 74, 0), (74, .invokevirtual 149, 77, 0), (77, .ifCond .eq 10, 80, 87), (80, .aload_n 0, 81, 0), (81, .invokevirtual 217, 84, 0), (84, .goto (-13), 87, 71), (87, .aload_n 0, 88, 0), (88, .ldc 220, 90, 0), (90, .invokevirtual 208, 93, 0), (93, .istore_n 1, 94, 0), (94, .iload_n 1, 95, 0), (95, .iconst (-1), 96, 0), (96, .if_icmp .eq 18, 99, 114), (99, .aload_n 0, 100, 0), (100, .iload_n 1, 101, 0), (101, .invokevirtual 222, 104, 0), (104, .aload_n 0, 105, 0), (105, .ldc 220, 107, 0), (107, .invokevirtual 208, 110, 0), (110, .istore_n 1, 111, 0), (111, .goto (-17), 114, 94), (114, .aload_n 0, 115, 0), (115, .ldc 225, 117, 0), (117, .invokevirtual 208, 120, 0), (120, .istore_n 1, 121, 0), (121, .iload_n 1, 122, 0), (122, .iconst (-1), 123, 0), (123, .if_icmp .eq 18, 126, 141), (126, .aload_n 0, 127, 0), (127, .iload_n 1, 128, 0), (128, .invokevirtual 227, 131, 0), (131, .aload_n 0, 132, 0), (132, .ldc 225, 134, 0), (134, .invokevirtual 208, 137, 0), (137, .istore_n 1, 138, 0), (138, .goto (-17), 141, 121), (141, .aload_n 0, 142, 0), (142, .ldc 230, 144, 0), (144, .invokevirtual 149, 147, 0), (147, .ifCond .eq 7, 150, 154), (150, .aload_n 0, 151, 0), (151, .invokevirtual 232, 154, 0), (154, .aload_n 0, 155, 0), (155, .ldc 235, 157, 0), (157, .invokevirtual 149, 160, 0), (160, .ifCond .eq 7, 163, 167), (163, .aload_n 0, 164, 0), (164, .invokevirtual 237, 167, 0), (167, .aload_n 0, 168, 0), (168, .getfield 63, 171, 0), (171, .ifCond .ne 21, 174, 192), (174, .aload_n 0, 175, 0), (175, .invokevirtual 75, 178, 0), (178, .iconst (-1), 179, 0), (179, .if_icmp .eq 13, 182, 192), (182, .aload_n 0, 183, 0), (183, .bipush (-2), 185, 0), (185, .aload_n 0, 186, 0), (186, .getfield 69, 189, 0), (189, .invokevirtual 99, 192, 0), (192, .return_, 193, 0)]
def mX11_texts : XMI := (RX11, yX11_texts, cX11_texts, 2, (none), [], kX11_texts)
theorem okX11_texts : x_ok mX11_texts := ⟨by decide +kernel, rfl, by decide⟩
def kX11_load : XK := [(0, .aload_n 0, 1, 0), (1, .iconst 0, 2, 0), (2, .putfield 37, 5, 0), (5, .aload_n 0, 6, 0), (6, .iload_n 1, 7, 0), (7, .i2l, 8, 0), (8, .lconst 0, 9, 0), (9, .aload_n 0, 10, 0), (10, .getfield 60, 13, 0), (13, .i2l, 14, 0), (14, .invokestatic 115, 17, 0), (17, .iconst 1, 18, 0), (18, .invokevirtual 240, 21, 0), (21, .ifCond .ne 5, 24, 26), (24, .iconst 0, 25, 0), (25, .ireturn, 26, 0), (26, .aload_n 0, 27, 0), (27, .iload_n 1, 28, 0), (28, .putfield 72, 31, 0), (31, .aload_n 0, 32, 0), (32, .iconst 0, 33, 0), (33, .putfield 60, 36, 0), (36, .aload_n 0, 37, 0), (37, .iconst (-1), 38, 0), (38, .putfield 19, 41, 0), (41, .aload_n 0, 42, 0), (42, .invokevirtual 244, 45, 0), (45, .aload_n 0, 46, 0), (46, .getfield 63, 49, 0), (49, .ifCond .eq 16, 52, 65), (52, .aload_n 0, 53, 0), (53, .aload_n 0, 54, 0), (54, .getfield 66, 57, 0), (57, .putfield 19, 60, 0), (60, .aload_n 0, 61, 0), (61, .getfield 63, 64, 0), (64, .ireturn, 65, 0), (65, .aload_n 0, 66, 0), (66, .invokevirtual 247, 69, 0), (69, .iconst 0, 70, 0), (70, .istore_n 2, 71, 0), (71, .iload_n 2, 72, 0), (72, .sipush 2400, 75, 0), (75, .if_icmp .ge 20, 78, 95), (78, .aload_n 0, 79, 0), (79, .iload_n 2, 80, 0), (80, .aload_n 0, 81, 0), (81, .getfield 13, 84, 0), (84, .iload_n 2, 85, 0), (85, .iaload, 86, 0), (86, .invokevirtual 33, 89, 0), (89, .iinc 2 1, 92, 0), (92, .goto (-21), 95, 71), (95, .aload_n 0, 96, 0), (96, .invokevirtual 250, 99, 0), (99, .aload_n 0, 100, 0), (100, .iconst 2, 101, 0), (101, .invokevirtual 50, 104, 0), (104, .ireturn, 105, 0)]
def mX11_load : XMI := (RX11, yX11_load, cX11_load, 3, (some FieldType.int), [], kX11_load)
theorem okX11_load : x_ok mX11_load := ⟨by decide +kernel, rfl, by decide⟩
def kX11_errorOffset : XK := [(0, .aload_n 0, 1, 0), (1, .iconst 0, 2, 0), (2, .putfield 37, 5, 0), (5, .aload_n 0, 6, 0), (6, .getfield 19, 9, 0), (9, .ireturn, 10, 0)]
def mX11_errorOffset : XMI := (RX11, yX11_errorOffset, cX11_errorOffset, 1, (some FieldType.int), [], kX11_errorOffset)
theorem okX11_errorOffset : x_ok mX11_errorOffset := ⟨by decide +kernel, rfl, by decide⟩
def kX11_unlike : XK := [(0, .iconst 0, 1, 0), (1, .istore_n 2, 2, 0), (2, .iconst 0, 3, 0), (3, .istore_n 3, 4, 0), (4, .iload_n 3, 5, 0), (5, .aload_n 0, 6, 0), (6, .iconst 1, 7, 0), (7, .invokevirtual 50, 10, 0), (10, .if_icmp .ge 74, 13, 84), (13, .iconst 1, 14, 0), (14, .istore 4, 16, 0), (16, .iconst 0, 17, 0), (17, .istore 5, 19, 0), (19, .iload 5, 21, 0), (21, .iload_n 3, 22, 0), (22, .if_icmp .ge 43, 25, 65), (25, .iload 4, 27, 0), (27, .ifCond .eq 29, 30, 56), (30, .aload_n 0, 31, 0), (31, .iload 5, 33, 0), (33, .iload_n 1, 34, 0), (34, .invokestatic 201, 37, 0), (37, .invokevirtual 50, 40, 0), (40, .aload_n 0, 41, 0), (41, .iload_n 3, 42, 0), (42, .iload_n 1, 43, 0), (43, .invokestatic 201, 46, 0), (46, .invokevirtual 50, 49, 0), (49, .if_icmp .eq 7, 52, 56), (52, .iconst 1, 53, 0), (53, .goto 4, 56, 57), (56, .iconst 0, 57, 0), (57, .istore 4, 59, 0), (59, .iinc 5 1, 62, 0), (62, .goto (-43), 65, 19), (65, .iload_n 2, 66, 0), (66, .iload 4, 68, 0), (68, .ifCond .eq 7, 71, 75), (71, .iconst 1, 72, 0), (72, .goto 4, 75, 76), (75, .iconst 0, 76, 0), (76, .iadd, 77, 0), (77, .istore_n 2, 78, 0), (78, .iinc 3 1, 81, 0), (81, .goto (-77), 84, 4), (84, .iload_n 2, 85, 0), (85, .ireturn, 86, 0)]
def mX11_unlike : XMI := (RX11, yX11_unlike, cX11_unlike, 6, (some FieldType.int), [], kX11_unlike)
theorem okX11_unlike : x_ok mX11_unlike := ⟨by decide +kernel, rfl, by decide⟩
def kX11_extreme : XK := [(0, .aload_n 0, 1, 0), (1, .iconst 1, 2, 0), (2, .invokevirtual 50, 5, 0), (5, .ifCond .ne 7, 8, 12), (8, .iconst 0, 9, 0), (9, .goto 12, 12, 21), (12, .aload_n 0, 13, 0), (13, .iconst 0, 14, 0), (14, .iload_n 1, 15, 0), (15, .invokestatic 201, 18, 0), (18, .invokevirtual 50, 21, 0), (21, .istore_n 3, 22, 0), (22, .iconst 0, 23, 0), (23, .istore 4, 25, 0), (25, .iload 4, 27, 0), (27, .aload_n 0, 28, 0), (28, .iconst 1, 29, 0), (29, .invokevirtual 50, 32, 0), (32, .if_icmp .ge 45, 35, 77), (35, .iload_n 2, 36, 0), (36, .ifCond .eq 20, 39, 56), (39, .iload_n 3, 40, 0), (40, .aload_n 0, 41, 0), (41, .iload 4, 43, 0), (43, .iload_n 1, 44, 0), (44, .invokestatic 201, 47, 0), (47, .invokevirtual 50, 50, 0), (50, .invokestatic 253, 53, 0), (53, .goto 17, 56, 70), (56, .iload_n 3, 57, 0), (57, .aload_n 0, 58, 0), (58, .iload 4, 60, 0), (60, .iload_n 1, 61, 0), (61, .invokestatic 201, 64, 0), (64, .invokevirtual 50, 67, 0), (67, .invokestatic 110, 70, 0), (70, .istore_n 3, 71, 0), (71, .iinc 4 1, 74, 0), (74, .goto (-49), 77, 25), (77, .iload_n 3, 78, 0), (78, .ireturn, 79, 0)]
def mX11_extreme : XMI := (RX11, yX11_extreme, cX11_extreme, 5, (some FieldType.int), [], kX11_extreme)
theorem okX11_extreme : x_ok mX11_extreme := ⟨by decide +kernel, rfl, by decide⟩
def kX11_looks : XK := [(0, .aload_n 0, 1, 0), (1, .bipush 8, 3, 0), (3, .aload_n 0, 4, 0), (4, .iconst 1, 5, 0), (5, .invokevirtual 50, 8, 0), (8, .invokevirtual 33, 11, 0), (11, .iconst 0, 12, 0), (12, .istore_n 1, 13, 0), (13, .iload_n 1, 14, 0), (14, .aload_n 0, 15, 0), (15, .iconst 0, 16, 0), (16, .invokevirtual 50, 19, 0), (19, .if_icmp .ge 56, 22, 75), (22, .aload_n 0, 23, 0), (23, .iload_n 1, 24, 0), (24, .bipush 10, 26, 0), (26, .invokestatic 46, 29, 0), (29, .aload_n 0, 30, 0), (30, .iload_n 1, 31, 0), (31, .invokevirtual 256, 34, 0), (34, .invokevirtual 33, 37, 0), (37, .aload_n 0, 38, 0), (38, .iload_n 1, 39, 0), (39, .bipush 11, 41, 0), (41, .invokestatic 46, 44, 0), (44, .aload_n 0, 45, 0), (45, .iload_n 1, 46, 0), (46, .iconst 0, 47, 0), (47, .invokevirtual 259, 50, 0), (50, .invokevirtual 33, 53, 0), (53, .aload_n 0, 54, 0), (54, .iload_n 1, 55, 0), (55, .bipush 12, 57, 0), (57, .invokestatic 46, 60, 0), (60, .aload_n 0, 61, 0), (61, .iload_n 1, 62, 0), (62, .iconst 1, 63, 0), (63, .invokevirtual 259, 66, 0), (66, .invokevirtual 33, 69, 0), (69, .iinc 1 1, 72, 0), (72, .goto (-59), 75, 13), (75, .return_, 76, 0)]
def mX11_looks : XMI := (RX11, yX11_looks, cX11_looks, 2, (none), [], kX11_looks)
theorem okX11_looks : x_ok mX11_looks := ⟨by decide +kernel, rfl, by decide⟩
def kX11_up : XK := [(0, .iload_n 0, 1, 0), (1, .iload_n 1, 2, 0), (2, .iadd, 3, 0), (3, .iconst 1, 4, 0), (4, .isub, 5, 0), (5, .iload_n 1, 6, 0), (6, .idiv, 7, 0), (7, .ireturn, 8, 0)]
def mX11_up : XMI := (RX11, yX11_up, cX11_up, 2, (some FieldType.int), [], kX11_up)
theorem okX11_up : x_ok mX11_up := ⟨by decide +kernel, rfl, by decide⟩
def kX11_seenEstimate : XK := [(0, .aload_n 0, 1, 0), (1, .iload_n 1, 2, 0), (2, .iconst 1, 3, 0), (3, .invokevirtual 263, 6, 0), (6, .istore_n 3, 7, 0), (7, .aload_n 0, 8, 0), (8, .bipush 8, 10, 0), (10, .invokevirtual 50, 13, 0), (13, .istore 4, 15, 0), (15, .aload_n 0, 16, 0), (16, .iload_n 3, 17, 0), (17, .bipush 11, 19, 0), (19, .invokevirtual 266, 22, 0), (22, .istore 5, 24, 0), (24, .aload_n 0, 25, 0), (25, .iload_n 3, 26, 0), (26, .bipush 12, 28, 0), (28, .invokevirtual 266, 31, 0), (31, .istore 6, 33, 0), (33, .aload_n 0, 34, 0), (34, .iload_n 1, 35, 0), (35, .iconst 2, 36, 0), (36, .invokevirtual 263, 39, 0), (39, .bipush 61, 41, 0), (41, .if_icmp .ne 32, 44, 73), (44, .iload_n 2, 45, 0), (45, .iload 5, 47, 0), (47, .if_icmp .lt 9, 50, 56), (50, .iload_n 2, 51, 0), (51, .iload 6, 53, 0), (53, .if_icmp .le 7, 56, 60), (56, .iconst 0, 57, 0), (57, .goto 15, 60, 72), (60, .iload 4, 62, 0), (62, .aload_n 0, 63, 0), (63, .iload_n 3, 64, 0), (64, .bipush 10, 66, 0), (66, .invokevirtual 266, 69, 0), (69, .invokestatic 269, 72, 0), (72, .ireturn, 73, 0), (73, .aload_n 0, 74, 0), (74, .iload_n 1, 75, 0), (75, .iconst 2, 76, 0), (76, .invokevirtual 263, 79, 0), (79, .bipush 60, 81, 0), (81, .if_icmp .ne 10, 84, 91), (84, .iload_n 2, 85, 0), (85, .iload 5, 87, 0), (87, .isub, 88, 0), (88, .goto 7, 91, 95), (91, .iload 6, 93, 0), (93, .iload_n 2, 94, 0), (94, .isub, 95, 0), (95, .istore 7, 97, 0), (97, .iconst 0, 98, 0), (98, .iload 4, 100, 0), (100, .iload 4, 102, 0), (102, .iload 7, 104, 0), (104, .imul, 105, 0), (105, .iload 6, 107, 0), (107, .iload 5, 109, 0), (109, .isub, 110, 0), (110, .iconst 1, 111, 0), (111, .iadd, 112, 0), (112, .idiv, 113, 0), (113, .invokestatic 110, 116, 0), (116, .invokestatic 253, 119, 0), (119, .ireturn, 120, 0)]
def mX11_seenEstimate : XMI := (RX11, yX11_seenEstimate, cX11_seenEstimate, 8, (some FieldType.int), [], kX11_seenEstimate)
theorem okX11_seenEstimate : x_ok mX11_seenEstimate := ⟨by decide +kernel, rfl, by decide⟩
def kX11_estimate : XK := [(0, .aload_n 0, 1, 0), (1, .bipush 8, 3, 0), (3, .invokevirtual 50, 6, 0), (6, .istore_n 3, 7, 0), (7, .iload_n 3, 8, 0), (8, .ifCond .ne 5, 11, 13), (11, .iconst 0, 12, 0), (12, .ireturn, 13, 0), (13, .aload_n 0, 14, 0), (14, .iload_n 1, 15, 0), (15, .iconst 3, 16, 0), (16, .invokevirtual 263, 19, 0), (19, .iconst 2, 20, 0), (20, .if_icmp .ne 7, 23, 27), (23, .iconst 1, 24, 0), (24, .goto 4, 27, 28), (27, .iconst 0, 28, 0), (28, .istore 4, 30, 0), (30, .iload 4, 32, 0), (32, .ifCond .eq 7, 35, 39), (35, .iload_n 2, 36, 0), (36, .ifCond .eq 34, 39, 70), (39, .aload_n 0, 40, 0), (40, .iload_n 1, 41, 0), (41, .iload 4, 43, 0), (43, .ifCond .eq 17, 46, 60), (46, .aload_n 0, 47, 0), (47, .getfield 23, 50, 0), (50, .aload_n 0, 51, 0), (51, .iload_n 1, 52, 0), (52, .iconst 4, 53, 0), (53, .invokevirtual 263, 56, 0), (56, .iaload, 57, 0), (57, .goto 9, 60, 66), (60, .aload_n 0, 61, 0), (61, .iload_n 1, 62, 0), (62, .iconst 4, 63, 0), (63, .invokevirtual 263, 66, 0), (66, .invokevirtual 272, 69, 0), (69, .ireturn, 70, 0), (70, .aload_n 0, 71, 0), (71, .iload_n 1, 72, 0), (72, .iconst 2, 73, 0), (73, .invokevirtual 263, 76, 0), (76, .bipush 61, 78, 0), (78, .if_icmp .ne 22, 81, 100), (81, .iload_n 3, 82, 0), (82, .aload_n 0, 83, 0), (83, .aload_n 0, 84, 0), (84, .iload_n 1, 85, 0), (85, .iconst 1, 86, 0), (86, .invokevirtual 263, 89, 0), (89, .bipush 10, 91, 0), (91, .invokevirtual 266, 94, 0), (94, .invokestatic 269, 97, 0), (97, .goto 8, 100, 105), (100, .iload_n 3, 101, 0), (101, .iconst 2, 102, 0), (102, .iadd, 103, 0), (103, .iconst 3, 104, 0), (104, .idiv, 105, 0), (105, .ireturn, 106, 0)]
def mX11_estimate : XMI := (RX11, yX11_estimate, cX11_estimate, 5, (some FieldType.int), [], kX11_estimate)
theorem okX11_estimate : x_ok mX11_estimate := ⟨by decide +kernel, rfl, by decide⟩
def kX11_chosen : XK := [(0, .iconst (-1), 1, 0), (1, .istore 4, 3, 0), (3, .aload_n 0, 4, 0), (4, .iload_n 1, 5, 0), (5, .bipush 26, 7, 0), (7, .invokevirtual 275, 10, 0), (10, .istore 5, 12, 0), (12, .iload 5, 14, 0), (14, .aload_n 0, 15, 0), (15, .iload_n 1, 16, 0), (16, .bipush 27, 18, 0), (18, .invokevirtual 275, 21, 0), (21, .if_icmp .ge 80, 24, 101), (24, .aload_n 0, 25, 0), (25, .iload 5, 27, 0), (27, .iconst 0, 28, 0), (28, .invokevirtual 263, 31, 0), (31, .ifCond .ne 29, 34, 60), (34, .aload_n 0, 35, 0), (35, .iload 5, 37, 0), (37, .iconst 5, 38, 0), (38, .invokevirtual 263, 41, 0), (41, .iconst 1, 42, 0), (42, .if_icmp .ne 18, 45, 60), (45, .aload_n 0, 46, 0), (46, .iload 5, 48, 0), (48, .iconst 1, 49, 0), (49, .invokevirtual 263, 52, 0), (52, .iload_n 2, 53, 0), (53, .if_icmp .ne 7, 56, 60), (56, .iconst 1, 57, 0), (57, .goto 4, 60, 61), (60, .iconst 0, 61, 0), (61, .istore 6, 63, 0), (63, .iload 6, 65, 0), (65, .ifCond .eq 30, 68, 95), (68, .iload 4, 70, 0), (70, .iconst (-1), 71, 0), (71, .if_icmp .eq 20, 74, 91), (74, .aload_n 0, 75, 0), (75, .iload 5, 77, 0), (77, .iload_n 3, 78, 0), (78, .invokevirtual 278, 81, 0), (81, .aload_n 0, 82, 0), (82, .iload 4, 84, 0), (84, .iload_n 3, 85, 0), (85, .invokevirtual 278, 88, 0), (88, .if_icmp .ge 7, 91, 95), (91, .iload 5, 93, 0), (93, .istore 4, 95, 0), (95, .iinc 5 1, 98, 0), (98, .goto (-86), 101, 12), (101, .iload 4, 103, 0), (103, .ireturn, 104, 0)]
def mX11_chosen : XMI := (RX11, yX11_chosen, cX11_chosen, 7, (some FieldType.int), [], kX11_chosen)
theorem okX11_chosen : x_ok mX11_chosen := ⟨by decide +kernel, rfl, by decide⟩
def kX11_costOf : XK := [(0, .iload_n 2, 1, 0), (1, .iconst (-1), 2, 0), (2, .if_icmp .ne 16, 5, 18), (5, .aload_n 0, 6, 0), (6, .iconst 4, 7, 0), (7, .invokevirtual 50, 10, 0), (10, .aload_n 0, 11, 0), (11, .bipush 8, 13, 0), (13, .invokevirtual 50, 16, 0), (16, .imul, 17, 0), (17, .ireturn, 18, 0), (18, .aload_n 0, 19, 0), (19, .iload_n 2, 20, 0), (20, .bipush 9, 22, 0), (22, .invokevirtual 266, 25, 0), (25, .iconst 1, 26, 0), (26, .if_icmp .ne 13, 29, 39), (29, .aload_n 0, 30, 0), (30, .iload_n 1, 31, 0), (31, .iload_n 2, 32, 0), (32, .iload_n 3, 33, 0), (33, .invokevirtual 281, 36, 0), (36, .goto 4, 39, 40), (39, .iconst (-1), 40, 0), (40, .istore 4, 42, 0), (42, .iload 4, 44, 0), (44, .iconst (-1), 45, 0), (45, .if_icmp .ne 7, 48, 52), (48, .iconst (-1), 49, 0), (49, .goto 36, 52, 85), (52, .aload_n 0, 53, 0), (53, .iconst 5, 54, 0), (54, .invokevirtual 50, 57, 0), (57, .aload_n 0, 58, 0), (58, .bipush 6, 60, 0), (60, .invokevirtual 50, 63, 0), (63, .aload_n 0, 64, 0), (64, .iload 4, 66, 0), (66, .iload_n 3, 67, 0), (67, .invokevirtual 278, 70, 0), (70, .aload_n 0, 71, 0), (71, .iload_n 1, 72, 0), (72, .bipush 21, 74, 0), (74, .iload_n 2, 75, 0), (75, .iadd, 76, 0), (76, .invokevirtual 275, 79, 0), (79, .imul, 80, 0), (80, .bipush 100, 82, 0), (82, .idiv, 83, 0), (83, .imul, 84, 0), (84, .iadd, 85, 0), (85, .ireturn, 86, 0)]
def mX11_costOf : XMI := (RX11, yX11_costOf, cX11_costOf, 5, (some FieldType.int), [], kX11_costOf)
theorem okX11_costOf : x_ok mX11_costOf := ⟨by decide +kernel, rfl, by decide⟩
def kX11_bestPlan : XK := [(0, .iconst (-1), 1, 0), (1, .istore_n 3, 2, 0), (2, .aload_n 0, 3, 0), (3, .iload_n 1, 4, 0), (4, .iconst (-1), 5, 0), (5, .iload_n 2, 6, 0), (6, .invokevirtual 285, 9, 0), (9, .istore 4, 11, 0), (11, .iconst 0, 12, 0), (12, .istore 5, 14, 0), (14, .iload 5, 16, 0), (16, .aload_n 0, 17, 0), (17, .iconst 0, 18, 0), (18, .invokevirtual 50, 21, 0), (21, .if_icmp .ge 42, 24, 63), (24, .aload_n 0, 25, 0), (25, .iload_n 1, 26, 0), (26, .iload 5, 28, 0), (28, .iload_n 2, 29, 0), (29, .invokevirtual 285, 32, 0), (32, .istore 6, 34, 0), (34, .iload 6, 36, 0), (36, .iconst (-1), 37, 0), (37, .if_icmp .eq 20, 40, 57), (40, .iload 6, 42, 0), (42, .iload 4, 44, 0), (44, .if_icmp .lt 6, 47, 50), (47, .goto 10, 50, 57), (50, .iload 5, 52, 0), (52, .istore_n 3, 53, 0), (53, .iload 6, 55, 0), (55, .istore 4, 57, 0), (57, .iinc 5 1, 60, 0), (60, .goto (-46), 63, 14), (63, .iload_n 3, 64, 0), (64, .ireturn, 65, 0)]
def mX11_bestPlan : XMI := (RX11, yX11_bestPlan, cX11_bestPlan, 7, (some FieldType.int), [], kX11_bestPlan)
theorem okX11_bestPlan : x_ok mX11_bestPlan := ⟨by decide +kernel, rfl, by decide⟩
def kX11_isTrue : XK := [(0, .aload_n 0, 1, 0), (1, .iload_n 2, 2, 0), (2, .aload_n 0, 3, 0), (3, .iload_n 1, 4, 0), (4, .iconst 1, 5, 0), (5, .invokevirtual 263, 8, 0), (8, .invokestatic 201, 11, 0), (11, .invokevirtual 50, 14, 0), (14, .istore_n 3, 15, 0), (15, .aload_n 0, 16, 0), (16, .iload_n 1, 17, 0), (17, .iconst 3, 18, 0), (18, .invokevirtual 263, 21, 0), (21, .istore 4, 23, 0), (23, .aload_n 0, 24, 0), (24, .iload_n 1, 25, 0), (25, .iconst 4, 26, 0), (26, .invokevirtual 263, 29, 0), (29, .istore 5, 31, 0), (31, .iload 4, 33, 0), (33, .ifCond .ne 8, 36, 41), (36, .iload 5, 38, 0), (38, .goto 29, 41, 67), (41, .iload 4, 43, 0), (43, .iconst 1, 44, 0), (44, .if_icmp .ne 16, 47, 60), (47, .aload_n 0, 48, 0), (48, .iload_n 2, 49, 0), (49, .iload 5, 51, 0), (51, .invokestatic 201, 54, 0), (54, .invokevirtual 50, 57, 0), (57, .goto 10, 60, 67), (60, .aload_n 0, 61, 0), (61, .getfield 23, 64, 0), (64, .iload 5, 66, 0), (66, .iaload, 67, 0), (67, .istore 6, 69, 0), (69, .aload_n 0, 70, 0), (70, .iload_n 1, 71, 0), (71, .iconst 2, 72, 0), (72, .invokevirtual 263, 75, 0), (75, .istore 7, 77, 0), (77, .iload 7, 79, 0), (79, .bipush 60, 81, 0), (81, .if_icmp .ne 17, 84, 98), (84, .iload_n 3, 85, 0), (85, .iload 6, 87, 0), (87, .if_icmp .ge 7, 90, 94), (90, .iconst 1, 91, 0), (91, .goto 39, 94, 130), (94, .iconst 0, 95, 0), (95, .goto 35, 98, 130), (98, .iload 7, 100, 0), (100, .bipush 61, 102, 0), (102, .if_icmp .ne 17, 105, 119), (105, .iload_n 3, 106, 0), (106, .iload 6, 108, 0), (108, .if_icmp .ne 7, 111, 115), (111, .iconst 1, 112, 0), (112, .goto 18, 115, 130), (115, .iconst 0, 116, 0), (116, .goto 14, 119, 130), (119, .iload_n 3, 120, 0), (120, .iload 6, 122, 0), (122, .if_icmp .le 7, 125, 129), (125, .iconst 1, 126, 0), (126, .goto 4, 129, 130), (129, .iconst 0, 130, 0), (130, .ireturn, 131, 0)]
def mX11_isTrue : XMI := (RX11, yX11_isTrue, cX11_isTrue, 8, (some FieldType.boolean), [], kX11_isTrue)
theorem okX11_isTrue : x_ok mX11_isTrue := ⟨by decide +kernel, rfl, by decide⟩
def kX11_finds : XK := [(0, .iconst 0, 1, 0), (1, .istore_n 3, 2, 0), (2, .aload_n 0, 3, 0), (3, .iload_n 1, 4, 0), (4, .bipush 26, 6, 0), (6, .invokevirtual 275, 9, 0), (9, .istore 4, 11, 0), (11, .iload 4, 13, 0), (13, .aload_n 0, 14, 0), (14, .iload_n 1, 15, 0), (15, .bipush 27, 17, 0), (17, .invokevirtual 275, 20, 0), (20, .if_icmp .ge 145, 23, 165), (23, .aload_n 0, 24, 0), (24, .iload 4, 26, 0), (26, .iconst 0, 27, 0), (27, .invokevirtual 263, 30, 0), (30, .istore 5, 32, 0), (32, .iload 5, 34, 0), (34, .ifCond .ne 22, 37, 56), (37, .aload_n 0, 38, 0), (38, .getfield 26, 41, 0), (41, .iload_n 3, 42, 0), (42, .aload_n 0, 43, 0), (43, .iload 4, 45, 0), (45, .iload_n 2, 46, 0), (46, .invokevirtual 288, 49, 0), (49, .bastore, 50, 0), (50, .iinc 3 1, 53, 0), (53, .goto 106, 56, 159), (56, .iload 5, 58, 0), (58, .iconst 3, 59, 0), (59, .if_icmp .ne 30, 62, 89), (62, .aload_n 0, 63, 0), (63, .getfield 26, 66, 0), (66, .iload_n 3, 67, 0), (67, .iconst 1, 68, 0), (68, .isub, 69, 0), (69, .aload_n 0, 70, 0), (70, .getfield 26, 73, 0), (73, .iload_n 3, 74, 0), (74, .iconst 1, 75, 0), (75, .isub, 76, 0), (76, .baload, 77, 0), (77, .ifCond .ne 7, 80, 84), (80, .iconst 1, 81, 0), (81, .goto 4, 84, 85), (84, .iconst 0, 85, 0), (85, .bastore, 86, 0), (86, .goto 73, 89, 159), (89, .iinc 3 (-1), 92, 0), (92, .aload_n 0, 93, 0), (93, .getfield 26, 96, 0), (96, .iload_n 3, 97, 0), (97, .iconst 1, 98, 0), (98, .isub, 99, 0), (99, .iload 5, 101, 0), (101, .iconst 1, 102, 0), (102, .if_icmp .ne 31, 105, 133), (105, .aload_n 0, 106, 0), (106, .getfield 26, 109, 0), (109, .iload_n 3, 110, 0), (110, .iconst 1, 111, 0), (111, .isub, 112, 0), (112, .baload, 113, 0), (113, .ifCond .eq 16, 116, 129), (116, .aload_n 0, 117, 0), (117, .getfield 26, 120, 0), (120, .iload_n 3, 121, 0), (121, .baload, 122, 0), (122, .ifCond .eq 7, 125, 129), (125, .iconst 1, 126, 0), (126, .goto 32, 129, 158), (129, .iconst 0, 130, 0), (130, .goto 28, 133, 158), (133, .aload_n 0, 134, 0), (134, .getfield 26, 137, 0), (137, .iload_n 3, 138, 0), (138, .iconst 1, 139, 0), (139, .isub, 140, 0), (140, .baload, 141, 0), (141, .ifCond .ne 12, 144, 153), (144, .aload_n 0, 145, 0), (145, .getfield 26, 148, 0), (148, .iload_n 3, 149, 0), (149, .baload, 150, 0), (150, .ifCond .eq 7, 153, 157), (153, .iconst 1, 154, 0), (154, .goto 4, 157, 158), (157, .iconst 0, 158, 0), (158, .bastore, 159, 0), (159, .iinc 4 1, 162, 0), (162, .goto (-151), 165, 11), (165, .aload_n 0, 166, 0), (166, .getfield 26, 169, 0), (169, .iconst 0, 170, 0), (170, .baload, 171, 0), (171, .ireturn, 172, 0)]
def mX11_finds : XMI := (RX11, yX11_finds, cX11_finds, 6, (some FieldType.boolean), [], kX11_finds)
theorem okX11_finds : x_ok mX11_finds := ⟨by decide +kernel, rfl, by decide⟩
def kX11_count : XK := [(0, .aload_n 0, 1, 0), (1, .iconst 0, 2, 0), (2, .putfield 37, 5, 0), (5, .aload_n 0, 6, 0), (6, .iload_n 1, 7, 0), (7, .i2l, 8, 0), (8, .lconst 0, 9, 0), (9, .ldc2_w 292, 12, 0), (12, .invokestatic 115, 15, 0), (15, .iconst 1, 16, 0), (16, .invokevirtual 240, 19, 0), (19, .ifCond .eq 11, 22, 30), (22, .aload_n 0, 23, 0), (23, .iload_n 1, 24, 0), (24, .invokevirtual 50, 27, 0), (27, .goto 4, 30, 31), (30, .iconst 0, 31, 0), (31, .ireturn, 32, 0)]
def mX11_count : XMI := (RX11, yX11_count, cX11_count, 2, (some FieldType.int), [], kX11_count)
theorem okX11_count : x_ok mX11_count := ⟨by decide +kernel, rfl, by decide⟩
def kX11_noColumn : XK := [(0, .aload_n 0, 1, 0), (1, .iload_n 1, 2, 0), (2, .i2l, 3, 0), (3, .lconst 0, 4, 0), (4, .aload_n 0, 5, 0), (5, .iconst 0, 6, 0), (6, .invokevirtual 50, 9, 0), (9, .iconst 1, 10, 0), (10, .isub, 11, 0), (11, .i2l, 12, 0), (12, .invokestatic 115, 15, 0), (15, .iconst 1, 16, 0), (16, .invokevirtual 240, 19, 0), (19, .ifCond .ne 7, 22, 26), (22, .iconst 1, 23, 0), (23, .goto 4, 26, 27), (26, .iconst 0, 27, 0), (27, .ireturn, 28, 0)]
def mX11_noColumn : XMI := (RX11, yX11_noColumn, cX11_noColumn, 2, (some FieldType.boolean), [], kX11_noColumn)
theorem okX11_noColumn : x_ok mX11_noColumn := ⟨by decide +kernel, rfl, by decide⟩
def kX11_noStatement : XK := [(0, .aload_n 0, 1, 0), (1, .iconst 0, 2, 0), (2, .putfield 37, 5, 0), (5, .aload_n 0, 6, 0), (6, .iload_n 1, 7, 0), (7, .i2l, 8, 0), (8, .lconst 0, 9, 0), (9, .aload_n 0, 10, 0), (10, .iconst 2, 11, 0), (11, .invokevirtual 50, 14, 0), (14, .iconst 1, 15, 0), (15, .isub, 16, 0), (16, .i2l, 17, 0), (17, .invokestatic 115, 20, 0), (20, .iconst 1, 21, 0), (21, .invokevirtual 240, 24, 0), (24, .ifCond .ne 7, 27, 31), (27, .iconst 1, 28, 0), (28, .goto 4, 31, 32), (31, .iconst 0, 32, 0), (32, .ireturn, 33, 0)]
def mX11_noStatement : XMI := (RX11, yX11_noStatement, cX11_noStatement, 2, (some FieldType.boolean), [], kX11_noStatement)
theorem okX11_noStatement : x_ok mX11_noStatement := ⟨by decide +kernel, rfl, by decide⟩
def kX11_column : XK := [(0, .aload_n 0, 1, 0), (1, .iconst 0, 2, 0), (2, .putfield 37, 5, 0), (5, .aload_n 0, 6, 0), (6, .iload_n 1, 7, 0), (7, .invokevirtual 294, 10, 0), (10, .ifCond .ne 20, 13, 30), (13, .aload_n 0, 14, 0), (14, .iload_n 2, 15, 0), (15, .i2l, 16, 0), (16, .lconst 0, 17, 0), (17, .ldc2_w 297, 20, 0), (20, .invokestatic 115, 23, 0), (23, .iconst 2, 24, 0), (24, .invokevirtual 240, 27, 0), (27, .ifCond .ne 7, 30, 34), (30, .iconst 0, 31, 0), (31, .goto 12, 34, 43), (34, .aload_n 0, 35, 0), (35, .iload_n 1, 36, 0), (36, .bipush 8, 38, 0), (38, .iload_n 2, 39, 0), (39, .iadd, 40, 0), (40, .invokevirtual 266, 43, 0), (43, .ireturn, 44, 0)]
def mX11_column : XMI := (RX11, yX11_column, cX11_column, 3, (some FieldType.int), [], kX11_column)
theorem okX11_column : x_ok mX11_column := ⟨by decide +kernel, rfl, by decide⟩
def kX11_value : XK := [(0, .aload_n 0, 1, 0), (1, .iconst 0, 2, 0), (2, .putfield 37, 5, 0), (5, .aload_n 0, 6, 0), (6, .iload_n 1, 7, 0), (7, .i2l, 8, 0), (8, .lconst 0, 9, 0), (9, .aload_n 0, 10, 0), (10, .iconst 1, 11, 0), (11, .invokevirtual 50, 14, 0), (14, .iconst 1, 15, 0), (15, .isub, 16, 0), (16, .i2l, 17, 0), (17, .invokestatic 115, 20, 0), (20, .iconst 1, 21, 0), (21, .invokevirtual 240, 24, 0), (24, .ifCond .eq 11, 27, 35), (27, .aload_n 0, 28, 0), (28, .iload_n 2, 29, 0), (29, .invokevirtual 294, 32, 0), (32, .ifCond .eq 7, 35, 39), (35, .iconst 0, 36, 0), (36, .goto 12, 39, 48), (39, .aload_n 0, 40, 0), (40, .iload_n 1, 41, 0), (41, .iload_n 2, 42, 0), (42, .invokestatic 201, 45, 0), (45, .invokevirtual 50, 48, 0), (48, .ireturn, 49, 0)]
def mX11_value : XMI := (RX11, yX11_value, cX11_value, 3, (some FieldType.int), [], kX11_value)
theorem okX11_value : x_ok mX11_value := ⟨by decide +kernel, rfl, by decide⟩
def kX11_nameOf : XK := [(0, .iconst 0, 1, 0), (1, .istore_n 2, 2, 0), (2, .iload_n 2, 3, 0), (3, .aload_n 0, 4, 0), (4, .iconst 2, 5, 0), (5, .invokevirtual 50, 8, 0), (8, .if_icmp .ge 70, 11, 78), (11, .iconst 1, 12, 0), (12, .istore_n 3, 13, 0), (13, .iconst 0, 14, 0), (14, .istore 4, 16, 0), (16, .iload 4, 18, 0), (18, .bipush 8, 20, 0), (20, .if_icmp .ge 46, 23, 66), (23, .iload_n 3, 24, 0), (24, .ifCond .eq 42, 27, 66), (27, .aload_n 0, 28, 0), (28, .iload_n 2, 29, 0), (29, .iload 4, 31, 0), (31, .invokevirtual 275, 34, 0), (34, .iload 4, 36, 0), (36, .iload_n 1, 37, 0), (37, .if_icmp .ge 13, 40, 50), (40, .aload_n 0, 41, 0), (41, .getfield 16, 44, 0), (44, .iload 4, 46, 0), (46, .iaload, 47, 0), (47, .goto 4, 50, 51), (50, .iconst 0, 51, 0), (51, .if_icmp .ne 7, 54, 58), (54, .iconst 1, 55, 0), (55, .goto 4, 58, 59), (58, .iconst 0, 59, 0), (59, .istore_n 3, 60, 0), (60, .iinc 4 1, 63, 0), (63, .goto (-47), 66, 16), (66, .iload_n 3, 67, 0), (67, .ifCond .eq 5, 70, 72), (70, .iload_n 2, 71, 0), (71, .ireturn, 72, 0), (72, .iinc 2 1, 75, 0), (75, .goto (-73), 78, 2), (78, .iconst (-1), 79, 0), (79, .ireturn, 80, 0)]
def mX11_nameOf : XMI := (RX11, yX11_nameOf, cX11_nameOf, 5, (some FieldType.int), [], kX11_nameOf)
theorem okX11_nameOf : x_ok mX11_nameOf := ⟨by decide +kernel, rfl, by decide⟩
def kX11_named : XK := [(0, .aload_n 0, 1, 0), (1, .iconst 0, 2, 0), (2, .putfield 37, 5, 0), (5, .aload_n 0, 6, 0), (6, .iload_n 1, 7, 0), (7, .i2l, 8, 0), (8, .lconst 0, 9, 0), (9, .aload_n 0, 10, 0), (10, .getfield 60, 13, 0), (13, .i2l, 14, 0), (14, .invokestatic 115, 17, 0), (17, .iconst 1, 18, 0), (18, .invokevirtual 240, 21, 0), (21, .ifCond .ne 5, 24, 26), (24, .iconst 0, 25, 0), (25, .ireturn, 26, 0), (26, .aload_n 0, 27, 0), (27, .iconst 0, 28, 0), (28, .putfield 60, 31, 0), (31, .iload_n 1, 32, 0), (32, .iconst 1, 33, 0), (33, .if_icmp .lt 13, 36, 46), (36, .iload_n 1, 37, 0), (37, .bipush 8, 39, 0), (39, .if_icmp .gt 7, 42, 46), (42, .iconst 1, 43, 0), (43, .goto 4, 46, 47), (46, .iconst 0, 47, 0), (47, .istore_n 2, 48, 0), (48, .iconst 0, 49, 0), (49, .istore_n 3, 50, 0), (50, .iload_n 3, 51, 0), (51, .iload_n 1, 52, 0), (52, .if_icmp .ge 23, 55, 75), (55, .iload_n 2, 56, 0), (56, .ifCond .eq 19, 59, 75), (59, .aload_n 0, 60, 0), (60, .getfield 16, 63, 0), (63, .iload_n 3, 64, 0), (64, .iaload, 65, 0), (65, .invokestatic 79, 68, 0), (68, .istore_n 2, 69, 0), (69, .iinc 3 1, 72, 0), (72, .goto (-22), 75, 50), (75, .iload_n 2, 76, 0), (76, .ifCond .eq 11, 79, 87), (79, .aload_n 0, 80, 0), (80, .iload_n 1, 81, 0), (81, .invokevirtual 299, 84, 0), (84, .goto 4, 87, 88), (87, .iconst (-1), 88, 0), (88, .ireturn, 89, 0)]
def mX11_named : XMI := (RX11, yX11_named, cX11_named, 4, (some FieldType.int), [], kX11_named)
theorem okX11_named : x_ok mX11_named := ⟨by decide +kernel, rfl, by decide⟩
def kX11_hole : XK := [(0, .aload_n 0, 1, 0), (1, .iload_n 1, 2, 0), (2, .invokevirtual 302, 5, 0), (5, .ifCond .ne 20, 8, 25), (8, .aload_n 0, 9, 0), (9, .iload_n 2, 10, 0), (10, .i2l, 11, 0), (11, .lconst 0, 12, 0), (12, .ldc2_w 305, 15, 0), (15, .invokestatic 115, 18, 0), (18, .iconst 2, 19, 0), (19, .invokevirtual 240, 22, 0), (22, .ifCond .ne 7, 25, 29), (25, .iconst 0, 26, 0), (26, .goto 12, 29, 38), (29, .aload_n 0, 30, 0), (30, .iload_n 1, 31, 0), (31, .bipush 17, 33, 0), (33, .iload_n 2, 34, 0), (34, .iadd, 35, 0), (35, .invokevirtual 275, 38, 0), (38, .ireturn, 39, 0)]
def mX11_hole : XMI := (RX11, yX11_hole, cX11_hole, 3, (some FieldType.int), [], kX11_hole)
theorem okX11_hole : x_ok mX11_hole := ⟨by decide +kernel, rfl, by decide⟩
def kX11_stateOf : XK := [(0, .aload_n 0, 1, 0), (1, .iload_n 1, 2, 0), (2, .bipush 14, 4, 0), (4, .invokevirtual 275, 7, 0), (7, .bipush (-2), 9, 0), (9, .if_icmp .ne 7, 12, 16), (12, .iconst 0, 13, 0), (13, .goto 23, 16, 36), (16, .aload_n 0, 17, 0), (17, .iload_n 1, 18, 0), (18, .bipush 16, 20, 0), (20, .invokevirtual 275, 23, 0), (23, .aload_n 0, 24, 0), (24, .iconst 3, 25, 0), (25, .invokevirtual 50, 28, 0), (28, .if_icmp .ne 7, 31, 35), (31, .iconst 1, 32, 0), (32, .goto 4, 35, 36), (35, .iconst 2, 36, 0), (36, .ireturn, 37, 0)]
def mX11_stateOf : XMI := (RX11, yX11_stateOf, cX11_stateOf, 2, (some FieldType.int), [], kX11_stateOf)
theorem okX11_stateOf : x_ok mX11_stateOf := ⟨by decide +kernel, rfl, by decide⟩
def kX11_toldOf : XK := [(0, .iload_n 2, 1, 0), (1, .iconst 4, 2, 0), (2, .if_icmp .ne 11, 5, 13), (5, .aload_n 0, 6, 0), (6, .iload_n 1, 7, 0), (7, .invokevirtual 307, 10, 0), (10, .goto 12, 13, 22), (13, .aload_n 0, 14, 0), (14, .iload_n 1, 15, 0), (15, .bipush 8, 17, 0), (17, .iload_n 2, 18, 0), (18, .iadd, 19, 0), (19, .invokevirtual 275, 22, 0), (22, .ireturn, 23, 0)]
def mX11_toldOf : XMI := (RX11, yX11_toldOf, cX11_toldOf, 3, (some FieldType.int), [], kX11_toldOf)
theorem okX11_toldOf : x_ok mX11_toldOf := ⟨by decide +kernel, rfl, by decide⟩
def kX11_statement : XK := [(0, .aload_n 0, 1, 0), (1, .iload_n 1, 2, 0), (2, .invokevirtual 302, 5, 0), (5, .ifCond .ne 20, 8, 25), (8, .aload_n 0, 9, 0), (9, .iload_n 2, 10, 0), (10, .i2l, 11, 0), (11, .lconst 0, 12, 0), (12, .ldc2_w 310, 15, 0), (15, .invokestatic 115, 18, 0), (18, .iconst 2, 19, 0), (19, .invokevirtual 240, 22, 0), (22, .ifCond .ne 7, 25, 29), (25, .iconst 0, 26, 0), (26, .goto 9, 29, 35), (29, .aload_n 0, 30, 0), (30, .iload_n 1, 31, 0), (31, .iload_n 2, 32, 0), (32, .invokevirtual 312, 35, 0), (35, .ireturn, 36, 0)]
def mX11_statement : XMI := (RX11, yX11_statement, cX11_statement, 3, (some FieldType.int), [], kX11_statement)
theorem okX11_statement : x_ok mX11_statement := ⟨by decide +kernel, rfl, by decide⟩
def kX11_learned : XK := [(0, .aload_n 0, 1, 0), (1, .iload_n 1, 2, 0), (2, .invokevirtual 302, 5, 0), (5, .ifCond .ne 11, 8, 16), (8, .aload_n 0, 9, 0), (9, .iload_n 2, 10, 0), (10, .invokevirtual 294, 13, 0), (13, .ifCond .eq 7, 16, 20), (16, .iconst 0, 17, 0), (17, .goto 12, 20, 29), (20, .aload_n 0, 21, 0), (21, .iload_n 1, 22, 0), (22, .bipush 21, 24, 0), (24, .iload_n 2, 25, 0), (25, .iadd, 26, 0), (26, .invokevirtual 275, 29, 0), (29, .ireturn, 30, 0)]
def mX11_learned : XMI := (RX11, yX11_learned, cX11_learned, 3, (some FieldType.int), [], kX11_learned)
theorem okX11_learned : x_ok mX11_learned := ⟨by decide +kernel, rfl, by decide⟩
def kX11_kept : XK := [(0, .aload_n 0, 1, 0), (1, .iload_n 1, 2, 0), (2, .invokevirtual 302, 5, 0), (5, .ifCond .eq 7, 8, 12), (8, .iconst 0, 9, 0), (9, .goto 10, 12, 19), (12, .aload_n 0, 13, 0), (13, .iload_n 1, 14, 0), (14, .bipush 14, 16, 0), (16, .invokevirtual 275, 19, 0), (19, .ireturn, 20, 0)]
def mX11_kept : XMI := (RX11, yX11_kept, cX11_kept, 2, (some FieldType.int), [], kX11_kept)
theorem okX11_kept : x_ok mX11_kept := ⟨by decide +kernel, rfl, by decide⟩
def kX11_isPlan : XK := [(0, .iload_n 1, 1, 0), (1, .i2l, 2, 0), (2, .ldc2_w 315, 5, 0), (5, .aload_n 0, 6, 0), (6, .iconst 0, 7, 0), (7, .invokevirtual 50, 10, 0), (10, .iconst 1, 11, 0), (11, .isub, 12, 0), (12, .i2l, 13, 0), (13, .invokestatic 115, 16, 0), (16, .ireturn, 17, 0)]
def mX11_isPlan : XMI := (RX11, yX11_isPlan, cX11_isPlan, 2, (some FieldType.boolean), [], kX11_isPlan)
theorem okX11_isPlan : x_ok mX11_isPlan := ⟨by decide +kernel, rfl, by decide⟩
def kX11_genericCost : XK := [(0, .aload_n 0, 1, 0), (1, .iload_n 1, 2, 0), (2, .invokevirtual 302, 5, 0), (5, .ifCond .ne 16, 8, 21), (8, .aload_n 0, 9, 0), (9, .aload_n 0, 10, 0), (10, .iload_n 2, 11, 0), (11, .invokevirtual 317, 14, 0), (14, .iconst 2, 15, 0), (15, .invokevirtual 240, 18, 0), (18, .ifCond .ne 7, 21, 25), (21, .iconst 0, 22, 0), (22, .goto 10, 25, 32), (25, .aload_n 0, 26, 0), (26, .iload_n 1, 27, 0), (27, .iload_n 2, 28, 0), (28, .iconst 0, 29, 0), (29, .invokevirtual 285, 32, 0), (32, .ireturn, 33, 0)]
def mX11_genericCost : XMI := (RX11, yX11_genericCost, cX11_genericCost, 3, (some FieldType.int), [], kX11_genericCost)
theorem okX11_genericCost : x_ok mX11_genericCost := ⟨by decide +kernel, rfl, by decide⟩
def kX11_isValue : XK := [(0, .aload_n 0, 1, 0), (1, .iload_n 1, 2, 0), (2, .bipush 17, 4, 0), (4, .iload_n 2, 5, 0), (5, .iadd, 6, 0), (6, .invokevirtual 275, 9, 0), (9, .istore 4, 11, 0), (11, .iload 4, 13, 0), (13, .iconst (-1), 14, 0), (14, .if_icmp .ne 15, 17, 29), (17, .iload_n 3, 18, 0), (18, .ifCond .ne 7, 21, 25), (21, .iconst 1, 22, 0), (22, .goto 19, 25, 41), (25, .iconst 0, 26, 0), (26, .goto 15, 29, 41), (29, .iload_n 3, 30, 0), (30, .i2l, 31, 0), (31, .lconst 0, 32, 0), (32, .iload 4, 34, 0), (34, .invokestatic 176, 37, 0), (37, .i2l, 38, 0), (38, .invokestatic 115, 41, 0), (41, .ireturn, 42, 0)]
def mX11_isValue : XMI := (RX11, yX11_isValue, cX11_isValue, 5, (some FieldType.boolean), [], kX11_isValue)
theorem okX11_isValue : x_ok mX11_isValue := ⟨by decide +kernel, rfl, by decide⟩
def kX11_takesValues : XK := [(0, .aload_n 0, 1, 0), (1, .aload_n 0, 2, 0), (2, .iload_n 1, 3, 0), (3, .iconst 0, 4, 0), (4, .iload_n 2, 5, 0), (5, .invokevirtual 320, 8, 0), (8, .ifCond .eq 39, 11, 47), (11, .aload_n 0, 12, 0), (12, .iload_n 1, 13, 0), (13, .iconst 1, 14, 0), (14, .iload_n 3, 15, 0), (15, .invokevirtual 320, 18, 0), (18, .ifCond .eq 29, 21, 47), (21, .aload_n 0, 22, 0), (22, .iload_n 1, 23, 0), (23, .iconst 2, 24, 0), (24, .iload 4, 26, 0), (26, .invokevirtual 320, 29, 0), (29, .ifCond .eq 18, 32, 47), (32, .aload_n 0, 33, 0), (33, .iload_n 1, 34, 0), (34, .iconst 3, 35, 0), (35, .iload 5, 37, 0), (37, .invokevirtual 320, 40, 0), (40, .ifCond .eq 7, 43, 47), (43, .iconst 1, 44, 0), (44, .goto 4, 47, 48), (47, .iconst 0, 48, 0), (48, .iconst 2, 49, 0), (49, .invokevirtual 240, 52, 0), (52, .ifCond .ne 5, 55, 57), (55, .iconst 0, 56, 0), (56, .ireturn, 57, 0), (57, .aload_n 0, 58, 0), (58, .getfield 23, 61, 0), (61, .iconst 0, 62, 0), (62, .iload_n 2, 63, 0), (63, .iastore, 64, 0), (64, .aload_n 0, 65, 0), (65, .getfield 23, 68, 0), (68, .iconst 1, 69, 0), (69, .iload_n 3, 70, 0), (70, .iastore, 71, 0), (71, .aload_n 0, 72, 0), (72, .getfield 23, 75, 0), (75, .iconst 2, 76, 0), (76, .iload 4, 78, 0), (78, .iastore, 79, 0), (79, .aload_n 0, 80, 0), (80, .getfield 23, 83, 0), (83, .iconst 3, 84, 0), (84, .iload 5, 86, 0), (86, .iastore, 87, 0), (87, .iconst 1, 88, 0), (88, .ireturn, 89, 0)]
def mX11_takesValues : XMI := (RX11, yX11_takesValues, cX11_takesValues, 6, (some FieldType.boolean), [], kX11_takesValues)
theorem okX11_takesValues : x_ok mX11_takesValues := ⟨by decide +kernel, rfl, by decide⟩
def kX11_special : XK := [(0, .aload_n 0, 1, 0), (1, .iload_n 1, 2, 0), (2, .invokevirtual 302, 5, 0), (5, .ifCond .ne 17, 8, 22), (8, .aload_n 0, 9, 0), (9, .iload_n 1, 10, 0), (10, .iload_n 2, 11, 0), (11, .iload_n 3, 12, 0), (12, .iload 4, 14, 0), (14, .iload 5, 16, 0), (16, .invokevirtual 324, 19, 0), (19, .ifCond .ne 7, 22, 26), (22, .iconst 0, 23, 0), (23, .goto 9, 26, 32), (26, .aload_n 0, 27, 0), (27, .iload_n 1, 28, 0), (28, .iconst 1, 29, 0), (29, .invokevirtual 328, 32, 0), (32, .ireturn, 33, 0)]
def mX11_special : XMI := (RX11, yX11_special, cX11_special, 6, (some FieldType.int), [], kX11_special)
theorem okX11_special : x_ok mX11_special := ⟨by decide +kernel, rfl, by decide⟩
def kX11_specialCost : XK := [(0, .aload_n 0, 1, 0), (1, .iload_n 1, 2, 0), (2, .invokevirtual 302, 5, 0), (5, .ifCond .ne 31, 8, 36), (8, .aload_n 0, 9, 0), (9, .aload_n 0, 10, 0), (10, .iload_n 2, 11, 0), (11, .invokevirtual 317, 14, 0), (14, .iconst 2, 15, 0), (15, .invokevirtual 240, 18, 0), (18, .ifCond .eq 18, 21, 36), (21, .aload_n 0, 22, 0), (22, .iload_n 1, 23, 0), (23, .iload_n 3, 24, 0), (24, .iload 4, 26, 0), (26, .iload 5, 28, 0), (28, .iload 6, 30, 0), (30, .invokevirtual 324, 33, 0), (33, .ifCond .ne 7, 36, 40), (36, .iconst 0, 37, 0), (37, .goto 10, 40, 47), (40, .aload_n 0, 41, 0), (41, .iload_n 1, 42, 0), (42, .iload_n 2, 43, 0), (43, .iconst 1, 44, 0), (44, .invokevirtual 285, 47, 0), (47, .ireturn, 48, 0)]
def mX11_specialCost : XMI := (RX11, yX11_specialCost, cX11_specialCost, 7, (some FieldType.int), [], kX11_specialCost)
theorem okX11_specialCost : x_ok mX11_specialCost := ⟨by decide +kernel, rfl, by decide⟩
def kX11_isFresh : XK := [(0, .aload_n 0, 1, 0), (1, .iload_n 1, 2, 0), (2, .bipush 14, 4, 0), (4, .invokevirtual 275, 7, 0), (7, .bipush (-2), 9, 0), (9, .if_icmp .eq 22, 12, 31), (12, .aload_n 0, 13, 0), (13, .iload_n 1, 14, 0), (14, .bipush 16, 16, 0), (16, .invokevirtual 275, 19, 0), (19, .aload_n 0, 20, 0), (20, .iconst 3, 21, 0), (21, .invokevirtual 50, 24, 0), (24, .if_icmp .ne 7, 27, 31), (27, .iconst 1, 28, 0), (28, .goto 4, 31, 32), (31, .iconst 0, 32, 0), (32, .ireturn, 33, 0)]
def mX11_isFresh : XMI := (RX11, yX11_isFresh, cX11_isFresh, 2, (some FieldType.boolean), [], kX11_isFresh)
theorem okX11_isFresh : x_ok mX11_isFresh := ⟨by decide +kernel, rfl, by decide⟩
def kX11_isGeneric : XK := [(0, .iload_n 2, 1, 0), (1, .i2l, 2, 0), (2, .aload_n 0, 3, 0), (3, .iload_n 1, 4, 0), (4, .bipush 9, 6, 0), (6, .invokevirtual 275, 9, 0), (9, .i2l, 10, 0), (10, .lmul, 11, 0), (11, .aload_n 0, 12, 0), (12, .iload_n 1, 13, 0), (13, .bipush 10, 15, 0), (15, .invokevirtual 275, 18, 0), (18, .i2l, 19, 0), (19, .lcmp, 20, 0), (20, .ifCond .gt 7, 23, 27), (23, .iconst 1, 24, 0), (24, .goto 4, 27, 28), (27, .iconst 0, 28, 0), (28, .ireturn, 29, 0)]
def mX11_isGeneric : XMI := (RX11, yX11_isGeneric, cX11_isGeneric, 3, (some FieldType.boolean), [], kX11_isGeneric)
theorem okX11_isGeneric : x_ok mX11_isGeneric := ⟨by decide +kernel, rfl, by decide⟩
def kX11_wouldUse : XK := [(0, .aload_n 0, 1, 0), (1, .iload_n 1, 2, 0), (2, .invokevirtual 302, 5, 0), (5, .ifCond .ne 17, 8, 22), (8, .aload_n 0, 9, 0), (9, .iload_n 1, 10, 0), (10, .iload_n 2, 11, 0), (11, .iload_n 3, 12, 0), (12, .iload 4, 14, 0), (14, .iload 5, 16, 0), (16, .invokevirtual 324, 19, 0), (19, .ifCond .ne 5, 22, 24), (22, .iconst 0, 23, 0), (23, .ireturn, 24, 0), (24, .aload_n 0, 25, 0), (25, .iload_n 1, 26, 0), (26, .bipush 8, 28, 0), (28, .invokevirtual 275, 31, 0), (31, .aload_n 0, 32, 0), (32, .bipush 7, 34, 0), (34, .invokevirtual 50, 37, 0), (37, .if_icmp .ge 14, 40, 51), (40, .iconst 2, 41, 0), (41, .aload_n 0, 42, 0), (42, .iload_n 1, 43, 0), (43, .iconst 1, 44, 0), (44, .invokevirtual 328, 47, 0), (47, .iconst 1, 48, 0), (48, .iadd, 49, 0), (49, .imul, 50, 0), (50, .ireturn, 51, 0), (51, .aload_n 0, 52, 0), (52, .iload_n 1, 53, 0), (53, .invokevirtual 331, 56, 0), (56, .ifCond .eq 13, 59, 69), (59, .aload_n 0, 60, 0), (60, .iload_n 1, 61, 0), (61, .bipush 14, 63, 0), (63, .invokevirtual 275, 66, 0), (66, .goto 9, 69, 75), (69, .aload_n 0, 70, 0), (70, .iload_n 1, 71, 0), (71, .iconst 0, 72, 0), (72, .invokevirtual 328, 75, 0), (75, .istore 6, 77, 0), (77, .aload_n 0, 78, 0), (78, .iload_n 1, 79, 0), (79, .invokevirtual 331, 82, 0), (82, .ifCond .eq 13, 85, 95), (85, .aload_n 0, 86, 0), (86, .iload_n 1, 87, 0), (87, .bipush 15, 89, 0), (89, .invokevirtual 275, 92, 0), (92, .goto 11, 95, 103), (95, .aload_n 0, 96, 0), (96, .iload_n 1, 97, 0), (97, .iload 6, 99, 0), (99, .iconst 0, 100, 0), (100, .invokevirtual 285, 103, 0), (103, .istore 7, 105, 0), (105, .aload_n 0, 106, 0), (106, .iload_n 1, 107, 0), (107, .iload 7, 109, 0), (109, .invokevirtual 334, 112, 0), (112, .ifCond .eq 14, 115, 126), (115, .iconst 2, 116, 0), (116, .iload 6, 118, 0), (118, .iconst 1, 119, 0), (119, .iadd, 120, 0), (120, .imul, 121, 0), (121, .iconst 1, 122, 0), (122, .iadd, 123, 0), (123, .goto 13, 126, 136), (126, .iconst 2, 127, 0), (127, .aload_n 0, 128, 0), (128, .iload_n 1, 129, 0), (129, .iconst 1, 130, 0), (130, .invokevirtual 328, 133, 0), (133, .iconst 1, 134, 0), (134, .iadd, 135, 0), (135, .imul, 136, 0), (136, .ireturn, 137, 0)]
def mX11_wouldUse : XMI := (RX11, yX11_wouldUse, cX11_wouldUse, 8, (some FieldType.int), [], kX11_wouldUse)
theorem okX11_wouldUse : x_ok mX11_wouldUse := ⟨by decide +kernel, rfl, by decide⟩
def kX11_rows : XK := [(0, .aload_n 0, 1, 0), (1, .iload_n 1, 2, 0), (2, .invokevirtual 302, 5, 0), (5, .ifCond .ne 17, 8, 22), (8, .aload_n 0, 9, 0), (9, .iload_n 1, 10, 0), (10, .iload_n 2, 11, 0), (11, .iload_n 3, 12, 0), (12, .iload 4, 14, 0), (14, .iload 5, 16, 0), (16, .invokevirtual 324, 19, 0), (19, .ifCond .ne 5, 22, 24), (22, .lconst 0, 23, 0), (23, .lreturn, 24, 0), (24, .lconst 0, 25, 0), (25, .lstore 6, 27, 0), (27, .iconst 0, 28, 0), (28, .istore 8, 30, 0), (30, .iload 8, 32, 0), (32, .aload_n 0, 33, 0), (33, .iconst 1, 34, 0), (34, .invokevirtual 50, 37, 0), (37, .if_icmp .ge 32, 40, 69), (40, .lload 6, 42, 0), (42, .aload_n 0, 43, 0), (43, .iload_n 1, 44, 0), (44, .iload 8, 46, 0), (46, .invokevirtual 337, 49, 0), (49, .ifCond .eq 10, 52, 59), (52, .lconst 1, 53, 0), (53, .iload 8, 55, 0), (55, .lshl, 56, 0), (56, .goto 4, 59, 60), (59, .lconst 0, 60, 0), (60, .lor, 61, 0), (61, .lstore 6, 63, 0), (63, .iinc 8 1, 66, 0), (66, .goto (-36), 69, 30), (69, .lload 6, 71, 0), (71, .lreturn, 72, 0)]
def mX11_rows : XMI := (RX11, yX11_rows, cX11_rows, 9, (some FieldType.long), [], kX11_rows)
theorem okX11_rows : x_ok mX11_rows := ⟨by decide +kernel, rfl, by decide⟩
def kX11_makesGeneric : XK := [(0, .aload_n 0, 1, 0), (1, .iload_n 1, 2, 0), (2, .invokevirtual 331, 5, 0), (5, .ifCond .eq 4, 8, 9), (8, .return_, 9, 0), (9, .aload_n 0, 10, 0), (10, .iload_n 1, 11, 0), (11, .iconst 0, 12, 0), (12, .invokevirtual 328, 15, 0), (15, .istore_n 2, 16, 0), (16, .aload_n 0, 17, 0), (17, .iload_n 1, 18, 0), (18, .bipush 14, 20, 0), (20, .invokestatic 54, 23, 0), (23, .iload_n 2, 24, 0), (24, .invokevirtual 33, 27, 0), (27, .aload_n 0, 28, 0), (28, .iload_n 1, 29, 0), (29, .bipush 15, 31, 0), (31, .invokestatic 54, 34, 0), (34, .aload_n 0, 35, 0), (35, .iload_n 1, 36, 0), (36, .iload_n 2, 37, 0), (37, .iconst 0, 38, 0), (38, .invokevirtual 285, 41, 0), (41, .invokevirtual 33, 44, 0), (44, .aload_n 0, 45, 0), (45, .iload_n 1, 46, 0), (46, .bipush 16, 48, 0), (48, .invokestatic 54, 51, 0), (51, .aload_n 0, 52, 0), (52, .iconst 3, 53, 0), (53, .invokevirtual 50, 56, 0), (56, .invokevirtual 33, 59, 0), (59, .aload_n 0, 60, 0), (60, .iload_n 1, 61, 0), (61, .bipush 11, 63, 0), (63, .invokestatic 54, 66, 0), (66, .iconst 1, 67, 0), (67, .invokevirtual 340, 70, 0), (70, .return_, 71, 0)]
def mX11_makesGeneric : XMI := (RX11, yX11_makesGeneric, cX11_makesGeneric, 3, (none), [], kX11_makesGeneric)
theorem okX11_makesGeneric : x_ok mX11_makesGeneric := ⟨by decide +kernel, rfl, by decide⟩
def kX11_learns : XK := [(0, .iconst 1, 1, 0), (1, .aload_n 0, 2, 0), (2, .iload_n 3, 3, 0), (3, .iload 4, 5, 0), (5, .invokevirtual 278, 8, 0), (8, .invokestatic 253, 11, 0), (11, .istore 6, 13, 0), (13, .sipush 1000, 16, 0), (16, .bipush 100, 18, 0), (18, .iload 5, 20, 0), (20, .imul, 21, 0), (21, .iload 6, 23, 0), (23, .idiv, 24, 0), (24, .invokestatic 110, 27, 0), (27, .istore 7, 29, 0), (29, .aload_n 0, 30, 0), (30, .iload_n 1, 31, 0), (31, .bipush 21, 33, 0), (33, .iload_n 2, 34, 0), (34, .iadd, 35, 0), (35, .invokestatic 54, 38, 0), (38, .iconst 3, 39, 0), (39, .aload_n 0, 40, 0), (40, .iload_n 1, 41, 0), (41, .bipush 21, 43, 0), (43, .iload_n 2, 44, 0), (44, .iadd, 45, 0), (45, .invokevirtual 275, 48, 0), (48, .imul, 49, 0), (49, .iload 7, 51, 0), (51, .iadd, 52, 0), (52, .iconst 4, 53, 0), (53, .idiv, 54, 0), (54, .invokevirtual 33, 57, 0), (57, .return_, 58, 0)]
def mX11_learns : XMI := (RX11, yX11_learns, cX11_learns, 8, (none), [], kX11_learns)
theorem okX11_learns : x_ok mX11_learns := ⟨by decide +kernel, rfl, by decide⟩
def kX11_touches : XK := [(0, .iconst 0, 1, 0), (1, .istore 4, 3, 0), (3, .iload_n 2, 4, 0), (4, .iconst (-1), 5, 0), (5, .if_icmp .ne 7, 8, 12), (8, .iconst (-1), 9, 0), (9, .goto 10, 12, 19), (12, .aload_n 0, 13, 0), (13, .iload_n 1, 14, 0), (14, .iload_n 2, 15, 0), (15, .iload_n 3, 16, 0), (16, .invokevirtual 281, 19, 0), (19, .istore 5, 21, 0), (21, .iconst 0, 22, 0), (22, .istore 6, 24, 0), (24, .iload 6, 26, 0), (26, .aload_n 0, 27, 0), (27, .iconst 1, 28, 0), (28, .invokevirtual 50, 31, 0), (31, .if_icmp .ge 36, 34, 67), (34, .iload 4, 36, 0), (36, .iload 5, 38, 0), (38, .iconst (-1), 39, 0), (39, .if_icmp .eq 14, 42, 53), (42, .aload_n 0, 43, 0), (43, .iload 5, 45, 0), (45, .iload 6, 47, 0), (47, .invokevirtual 288, 50, 0), (50, .ifCond .eq 7, 53, 57), (53, .iconst 1, 54, 0), (54, .goto 4, 57, 58), (57, .iconst 0, 58, 0), (58, .iadd, 59, 0), (59, .istore 4, 61, 0), (61, .iinc 6 1, 64, 0), (64, .goto (-40), 67, 24), (67, .aload_n 0, 68, 0), (68, .iload_n 1, 69, 0), (69, .bipush 13, 71, 0), (71, .invokestatic 54, 74, 0), (74, .iload 4, 76, 0), (76, .invokevirtual 340, 79, 0), (79, .iload 5, 81, 0), (81, .iconst (-1), 82, 0), (82, .if_icmp .eq 14, 85, 96), (85, .aload_n 0, 86, 0), (86, .iload_n 1, 87, 0), (87, .iload_n 2, 88, 0), (88, .iload 5, 90, 0), (90, .iload_n 3, 91, 0), (91, .iload 4, 93, 0), (93, .invokevirtual 343, 96, 0), (96, .return_, 97, 0)]
def mX11_touches : XMI := (RX11, yX11_touches, cX11_touches, 7, (none), [], kX11_touches)
theorem okX11_touches : x_ok mX11_touches := ⟨by decide +kernel, rfl, by decide⟩
def kX11_run : XK := [(0, .aload_n 0, 1, 0), (1, .iload_n 1, 2, 0), (2, .invokevirtual 302, 5, 0), (5, .ifCond .ne 17, 8, 22), (8, .aload_n 0, 9, 0), (9, .iload_n 1, 10, 0), (10, .iload_n 2, 11, 0), (11, .iload_n 3, 12, 0), (12, .iload 4, 14, 0), (14, .iload 5, 16, 0), (16, .invokevirtual 324, 19, 0), (19, .ifCond .ne 5, 22, 24), (22, .iconst 0, 23, 0), (23, .ireturn, 24, 0), (24, .aload_n 0, 25, 0), (25, .invokevirtual 247, 28, 0), (28, .aload_n 0, 29, 0), (29, .iload_n 1, 30, 0), (30, .bipush 8, 32, 0), (32, .invokevirtual 275, 35, 0), (35, .aload_n 0, 36, 0), (36, .bipush 7, 38, 0), (38, .invokevirtual 50, 41, 0), (41, .if_icmp .lt 7, 44, 48), (44, .iconst 1, 45, 0), (45, .goto 4, 48, 49), (48, .iconst 0, 49, 0), (49, .istore 6, 51, 0), (51, .iload 6, 53, 0), (53, .ifCond .eq 8, 56, 61), (56, .aload_n 0, 57, 0), (57, .iload_n 1, 58, 0), (58, .invokevirtual 347, 61, 0), (61, .iload 6, 63, 0), (63, .ifCond .eq 22, 66, 85), (66, .aload_n 0, 67, 0), (67, .iload_n 1, 68, 0), (68, .aload_n 0, 69, 0), (69, .iload_n 1, 70, 0), (70, .bipush 15, 72, 0), (72, .invokevirtual 275, 75, 0), (75, .invokevirtual 334, 78, 0), (78, .ifCond .eq 7, 81, 85), (81, .iconst 1, 82, 0), (82, .goto 4, 85, 86), (85, .iconst 0, 86, 0), (86, .istore 7, 88, 0), (88, .iload 7, 90, 0), (90, .ifCond .eq 13, 93, 103), (93, .aload_n 0, 94, 0), (94, .iload_n 1, 95, 0), (95, .bipush 14, 97, 0), (97, .invokevirtual 275, 100, 0), (100, .goto 9, 103, 109), (103, .aload_n 0, 104, 0), (104, .iload_n 1, 105, 0), (105, .iconst 1, 106, 0), (106, .invokevirtual 328, 109, 0), (109, .istore 8, 111, 0), (111, .iload 7, 113, 0), (113, .ifCond .ne 32, 116, 145), (116, .aload_n 0, 117, 0), (117, .iload_n 1, 118, 0), (118, .bipush 9, 120, 0), (120, .invokestatic 54, 123, 0), (123, .iconst 1, 124, 0), (124, .invokevirtual 340, 127, 0), (127, .aload_n 0, 128, 0), (128, .iload_n 1, 129, 0), (129, .bipush 10, 131, 0), (131, .invokestatic 54, 134, 0), (134, .aload_n 0, 135, 0), (135, .iload_n 1, 136, 0), (136, .iload 8, 138, 0), (138, .iconst 1, 139, 0), (139, .invokevirtual 285, 142, 0), (142, .invokevirtual 340, 145, 0), (145, .aload_n 0, 146, 0), (146, .iload_n 1, 147, 0), (147, .bipush 8, 149, 0), (149, .invokestatic 54, 152, 0), (152, .iconst 1, 153, 0), (153, .invokevirtual 340, 156, 0), (156, .aload_n 0, 157, 0), (157, .iload_n 1, 158, 0), (158, .iload 8, 160, 0), (160, .iload 7, 162, 0), (162, .ifCond .ne 7, 165, 169), (165, .iconst 1, 166, 0), (166, .goto 4, 169, 170), (169, .iconst 0, 170, 0), (170, .invokevirtual 350, 173, 0), (173, .iconst 0, 174, 0), (174, .istore 9, 176, 0), (176, .iconst 0, 177, 0), (177, .istore 10, 179, 0), (179, .iload 10, 181, 0), (181, .aload_n 0, 182, 0), (182, .iconst 1, 183, 0), (183, .invokevirtual 50, 186, 0), (186, .if_icmp .ge 29, 189, 215), (189, .iload 9, 191, 0), (191, .aload_n 0, 192, 0), (192, .iload_n 1, 193, 0), (193, .iload 10, 195, 0), (195, .invokevirtual 337, 198, 0), (198, .ifCond .eq 7, 201, 205), (201, .iconst 1, 202, 0), (202, .goto 4, 205, 206), (205, .iconst 0, 206, 0), (206, .iadd, 207, 0), (207, .istore 9, 209, 0), (209, .iinc 10 1, 212, 0), (212, .goto (-33), 215, 179), (215, .iload 9, 217, 0), (217, .ireturn, 218, 0)]
def mX11_run : XMI := (RX11, yX11_run, cX11_run, 11, (some FieldType.int), [], kX11_run)
theorem okX11_run : x_ok mX11_run := ⟨by decide +kernel, rfl, by decide⟩
def kX11_isCell : XK := [(0, .iload_n 1, 1, 0), (1, .aload_n 0, 2, 0), (2, .iconst 0, 3, 0), (3, .invokevirtual 50, 6, 0), (6, .if_icmp .ge 23, 9, 29), (9, .iload_n 2, 10, 0), (10, .i2l, 11, 0), (11, .lconst 0, 12, 0), (12, .aload_n 0, 13, 0), (13, .iload_n 1, 14, 0), (14, .bipush 8, 16, 0), (16, .invokevirtual 266, 19, 0), (19, .invokestatic 176, 22, 0), (22, .i2l, 23, 0), (23, .invokestatic 115, 26, 0), (26, .goto 12, 29, 38), (29, .iload_n 2, 30, 0), (30, .ifCond .ne 7, 33, 37), (33, .iconst 1, 34, 0), (34, .goto 4, 37, 38), (37, .iconst 0, 38, 0), (38, .ireturn, 39, 0)]
def mX11_isCell : XMI := (RX11, yX11_isCell, cX11_isCell, 3, (some FieldType.boolean), [], kX11_isCell)
theorem okX11_isCell : x_ok mX11_isCell := ⟨by decide +kernel, rfl, by decide⟩
def kX11_insert : XK := [(0, .aload_n 0, 1, 0), (1, .iconst 0, 2, 0), (2, .putfield 37, 5, 0), (5, .aload_n 0, 6, 0), (6, .aload_n 0, 7, 0), (7, .iconst 0, 8, 0), (8, .iload_n 1, 9, 0), (9, .invokevirtual 354, 12, 0), (12, .ifCond .eq 45, 15, 57), (15, .aload_n 0, 16, 0), (16, .iconst 1, 17, 0), (17, .iload_n 2, 18, 0), (18, .invokevirtual 354, 21, 0), (21, .ifCond .eq 36, 24, 57), (24, .aload_n 0, 25, 0), (25, .iconst 2, 26, 0), (26, .iload_n 3, 27, 0), (27, .invokevirtual 354, 30, 0), (30, .ifCond .eq 27, 33, 57), (33, .aload_n 0, 34, 0), (34, .iconst 3, 35, 0), (35, .iload 4, 37, 0), (37, .invokevirtual 354, 40, 0), (40, .ifCond .eq 17, 43, 57), (43, .aload_n 0, 44, 0), (44, .iconst 4, 45, 0), (45, .iload 5, 47, 0), (47, .invokevirtual 354, 50, 0), (50, .ifCond .eq 7, 53, 57), (53, .iconst 1, 54, 0), (54, .goto 4, 57, 58), (57, .iconst 0, 58, 0), (58, .iconst 1, 59, 0), (59, .invokevirtual 240, 62, 0), (62, .ifCond .eq 34, 65, 96), (65, .aload_n 0, 66, 0), (66, .aload_n 0, 67, 0), (67, .iconst 0, 68, 0), (68, .invokevirtual 50, 71, 0), (71, .ifCond .le 17, 74, 88), (74, .aload_n 0, 75, 0), (75, .iconst 1, 76, 0), (76, .invokevirtual 50, 79, 0), (79, .bipush 40, 81, 0), (81, .if_icmp .ge 7, 84, 88), (84, .iconst 1, 85, 0), (85, .goto 4, 88, 89), (88, .iconst 0, 89, 0), (89, .iconst 2, 90, 0), (90, .invokevirtual 240, 93, 0), (93, .ifCond .ne 5, 96, 98), (96, .iconst 0, 97, 0), (97, .ireturn, 98, 0), (98, .aload_n 0, 99, 0), (99, .invokevirtual 247, 102, 0), (102, .aload_n 0, 103, 0), (103, .iconst 1, 104, 0), (104, .invokevirtual 50, 107, 0), (107, .iconst 0, 108, 0), (108, .invokestatic 201, 111, 0), (111, .istore 6, 113, 0), (113, .aload_n 0, 114, 0), (114, .iload 6, 116, 0), (116, .iload_n 1, 117, 0), (117, .invokevirtual 33, 120, 0), (120, .aload_n 0, 121, 0), (121, .iload 6, 123, 0), (123, .iconst 1, 124, 0), (124, .iadd, 125, 0), (125, .iload_n 2, 126, 0), (126, .invokevirtual 33, 129, 0), (129, .aload_n 0, 130, 0), (130, .iload 6, 132, 0), (132, .iconst 2, 133, 0), (133, .iadd, 134, 0), (134, .iload_n 3, 135, 0), (135, .invokevirtual 33, 138, 0), (138, .aload_n 0, 139, 0), (139, .iload 6, 141, 0), (141, .iconst 3, 142, 0), (142, .iadd, 143, 0), (143, .iload 4, 145, 0), (145, .invokevirtual 33, 148, 0), (148, .aload_n 0, 149, 0), (149, .iload 6, 151, 0), (151, .iconst 4, 152, 0), (152, .iadd, 153, 0), (153, .iload 5, 155, 0), (155, .invokevirtual 33, 158, 0), (158, .aload_n 0, 159, 0), (159, .iconst 1, 160, 0), (160, .iconst 1, 161, 0), (161, .invokevirtual 340, 164, 0), (164, .aload_n 0, 165, 0), (165, .iconst 1, 166, 0), (166, .invokevirtual 50, 169, 0), (169, .ireturn, 170, 0)]
def mX11_insert : XMI := (RX11, yX11_insert, cX11_insert, 7, (some FieldType.int), [], kX11_insert)
theorem okX11_insert : x_ok mX11_insert := ⟨by decide +kernel, rfl, by decide⟩
def kX11_delete : XK := [(0, .aload_n 0, 1, 0), (1, .iconst 0, 2, 0), (2, .putfield 37, 5, 0), (5, .aload_n 0, 6, 0), (6, .iload_n 1, 7, 0), (7, .i2l, 8, 0), (8, .lconst 0, 9, 0), (9, .aload_n 0, 10, 0), (10, .iconst 1, 11, 0), (11, .invokevirtual 50, 14, 0), (14, .iconst 1, 15, 0), (15, .isub, 16, 0), (16, .i2l, 17, 0), (17, .invokestatic 115, 20, 0), (20, .iconst 1, 21, 0), (21, .invokevirtual 240, 24, 0), (24, .ifCond .ne 5, 27, 29), (27, .iconst 0, 28, 0), (28, .ireturn, 29, 0), (29, .aload_n 0, 30, 0), (30, .invokevirtual 247, 33, 0), (33, .aload_n 0, 34, 0), (34, .iconst 1, 35, 0), (35, .iconst (-1), 36, 0), (36, .invokevirtual 340, 39, 0), (39, .iload_n 1, 40, 0), (40, .iconst 0, 41, 0), (41, .invokestatic 201, 44, 0), (44, .istore_n 2, 45, 0), (45, .iload_n 2, 46, 0), (46, .aload_n 0, 47, 0), (47, .iconst 1, 48, 0), (48, .invokevirtual 50, 51, 0), (51, .iconst 0, 52, 0), (52, .invokestatic 201, 55, 0), (55, .if_icmp .ge 21, 58, 76), (58, .aload_n 0, 59, 0), (59, .iload_n 2, 60, 0), (60, .aload_n 0, 61, 0), (61, .iload_n 2, 62, 0), (62, .iconst 5, 63, 0), (63, .iadd, 64, 0), (64, .invokevirtual 50, 67, 0), (67, .invokevirtual 33, 70, 0), (70, .iinc 2 1, 73, 0), (73, .goto (-28), 76, 45), (76, .aload_n 0, 77, 0), (77, .iconst 1, 78, 0), (78, .invokevirtual 50, 81, 0), (81, .ireturn, 82, 0)]
def mX11_delete : XMI := (RX11, yX11_delete, cX11_delete, 3, (some FieldType.int), [], kX11_delete)
theorem okX11_delete : x_ok mX11_delete := ⟨by decide +kernel, rfl, by decide⟩
def kX11_setIndex : XK := [(0, .aload_n 0, 1, 0), (1, .iconst 0, 2, 0), (2, .putfield 37, 5, 0), (5, .aload_n 0, 6, 0), (6, .iload_n 1, 7, 0), (7, .invokevirtual 294, 10, 0), (10, .ifCond .eq 5, 13, 15), (13, .iconst 0, 14, 0), (14, .ireturn, 15, 0), (15, .aload_n 0, 16, 0), (16, .invokevirtual 247, 19, 0), (19, .iload_n 2, 20, 0), (20, .ifCond .eq 7, 23, 27), (23, .iconst 1, 24, 0), (24, .goto 4, 27, 28), (27, .iconst 0, 28, 0), (28, .istore_n 3, 29, 0), (29, .aload_n 0, 30, 0), (30, .iload_n 1, 31, 0), (31, .bipush 9, 33, 0), (33, .invokevirtual 266, 36, 0), (36, .iload_n 3, 37, 0), (37, .if_icmp .eq 7, 40, 44), (40, .iconst 1, 41, 0), (41, .goto 4, 44, 45), (44, .iconst 0, 45, 0), (45, .istore 4, 47, 0), (47, .aload_n 0, 48, 0), (48, .iload_n 1, 49, 0), (49, .bipush 9, 51, 0), (51, .invokestatic 46, 54, 0), (54, .iload_n 3, 55, 0), (55, .invokevirtual 33, 58, 0), (58, .aload_n 0, 59, 0), (59, .iconst 3, 60, 0), (60, .iload 4, 62, 0), (62, .ifCond .eq 7, 65, 69), (65, .iconst 1, 66, 0), (66, .goto 4, 69, 70), (69, .iconst 0, 70, 0), (70, .invokevirtual 340, 73, 0), (73, .iload 4, 75, 0), (75, .ireturn, 76, 0)]
def mX11_setIndex : XMI := (RX11, yX11_setIndex, cX11_setIndex, 5, (some FieldType.boolean), [], kX11_setIndex)
theorem okX11_setIndex : x_ok mX11_setIndex := ⟨by decide +kernel, rfl, by decide⟩
def kX11_analyze : XK := [(0, .aload_n 0, 1, 0), (1, .iconst 0, 2, 0), (2, .putfield 37, 5, 0), (5, .aload_n 0, 6, 0), (6, .invokevirtual 247, 9, 0), (9, .aload_n 0, 10, 0), (10, .invokevirtual 250, 13, 0), (13, .aload_n 0, 14, 0), (14, .iconst 3, 15, 0), (15, .iconst 1, 16, 0), (16, .invokevirtual 340, 19, 0), (19, .aload_n 0, 20, 0), (20, .iconst 3, 21, 0), (21, .invokevirtual 50, 24, 0), (24, .ireturn, 25, 0)]
def mX11_analyze : XMI := (RX11, yX11_analyze, cX11_analyze, 1, (some FieldType.int), [], kX11_analyze)
theorem okX11_analyze : x_ok mX11_analyze := ⟨by decide +kernel, rfl, by decide⟩
def kX11_undo : XK := [(0, .aload_n 0, 1, 0), (1, .iconst 0, 2, 0), (2, .putfield 37, 5, 0), (5, .aload_n 0, 6, 0), (6, .getfield 43, 9, 0), (9, .ifCond .ne 5, 12, 14), (12, .iconst (-1), 13, 0), (13, .ireturn, 14, 0), (14, .aload_n 0, 15, 0), (15, .dup, 16, 0), (16, .getfield 43, 19, 0), (19, .iconst 1, 20, 0), (20, .isub, 21, 0), (21, .putfield 43, 24, 0), (24, .aload_n 0, 25, 0), (25, .aload_n 0, 26, 0), (26, .getfield 40, 29, 0), (29, .bipush 9, 31, 0), (31, .iadd, 32, 0), (32, .iconst 1, 33, 0), (33, .isub, 34, 0), (34, .bipush 9, 36, 0), (36, .irem, 37, 0), (37, .putfield 40, 40, 0), (40, .aload_n 0, 41, 0), (41, .getfield 43, 44, 0), (44, .ireturn, 45, 0)]
def mX11_undo : XMI := (RX11, yX11_undo, cX11_undo, 1, (some FieldType.int), [], kX11_undo)
theorem okX11_undo : x_ok mX11_undo := ⟨by decide +kernel, rfl, by decide⟩
def kX11_adds : XK := [(0, .aload_n 0, 1, 0), (1, .ldc2_w 357, 4, 0), (4, .aload_n 0, 5, 0), (5, .getfield 359, 8, 0), (8, .lmul, 9, 0), (9, .lload_n 1, 10, 0), (10, .ladd, 11, 0), (11, .putfield 359, 14, 0), (14, .return_, 15, 0)]
def mX11_adds : XMI := (RX11, yX11_adds, cX11_adds, 3, (none), [], kX11_adds)
theorem okX11_adds : x_ok mX11_adds := ⟨by decide +kernel, rfl, by decide⟩
def kX11_addsStatement : XK := [(0, .iconst 0, 1, 0), (1, .istore_n 2, 2, 0), (2, .iload_n 2, 3, 0), (3, .bipush 6, 5, 0), (5, .if_icmp .ge 20, 8, 25), (8, .aload_n 0, 9, 0), (9, .aload_n 0, 10, 0), (10, .iload_n 1, 11, 0), (11, .iload_n 2, 12, 0), (12, .invokevirtual 312, 15, 0), (15, .i2l, 16, 0), (16, .invokevirtual 363, 19, 0), (19, .iinc 2 1, 22, 0), (22, .goto (-20), 25, 2), (25, .aload_n 0, 26, 0), (26, .aload_n 0, 27, 0), (27, .iload_n 1, 28, 0), (28, .bipush 14, 30, 0), (30, .invokevirtual 275, 33, 0), (33, .i2l, 34, 0), (34, .invokevirtual 363, 37, 0), (37, .iconst 0, 38, 0), (38, .istore_n 2, 39, 0), (39, .iload_n 2, 40, 0), (40, .iconst 4, 41, 0), (41, .if_icmp .ge 23, 44, 64), (44, .aload_n 0, 45, 0), (45, .aload_n 0, 46, 0), (46, .iload_n 1, 47, 0), (47, .bipush 17, 49, 0), (49, .iload_n 2, 50, 0), (50, .iadd, 51, 0), (51, .invokevirtual 275, 54, 0), (54, .i2l, 55, 0), (55, .invokevirtual 363, 58, 0), (58, .iinc 2 1, 61, 0), (61, .goto (-22), 64, 39), (64, .iconst 0, 65, 0), (65, .istore_n 2, 66, 0), (66, .iload_n 2, 67, 0), (67, .aload_n 0, 68, 0), (68, .iconst 0, 69, 0), (69, .invokevirtual 50, 72, 0), (72, .if_icmp .ge 23, 75, 95), (75, .aload_n 0, 76, 0), (76, .aload_n 0, 77, 0), (77, .iload_n 1, 78, 0), (78, .bipush 21, 80, 0), (80, .iload_n 2, 81, 0), (81, .iadd, 82, 0), (82, .invokevirtual 275, 85, 0), (85, .i2l, 86, 0), (86, .invokevirtual 363, 89, 0), (89, .iinc 2 1, 92, 0), (92, .goto (-26), 95, 66), (95, .return_, 96, 0)]
def mX11_addsStatement : XMI := (RX11, yX11_addsStatement, cX11_addsStatement, 3, (none), [], kX11_addsStatement)
theorem okX11_addsStatement : x_ok mX11_addsStatement := ⟨by decide +kernel, rfl, by decide⟩
def kX11_checksum : XK := [(0, .aload_n 0, 1, 0), (1, .iconst 0, 2, 0), (2, .putfield 37, 5, 0), (5, .aload_n 0, 6, 0), (6, .lconst 0, 7, 0), (7, .putfield 359, 10, 0), (10, .iconst 0, 11, 0), (11, .istore_n 1, 12, 0), (12, .iload_n 1, 13, 0), (13, .bipush 9, 15, 0), (15, .if_icmp .ge 19, 18, 34), (18, .aload_n 0, 19, 0), (19, .aload_n 0, 20, 0), (20, .iload_n 1, 21, 0), (21, .invokevirtual 50, 24, 0), (24, .i2l, 25, 0), (25, .invokevirtual 363, 28, 0), (28, .iinc 1 1, 31, 0), (31, .goto (-19), 34, 12), (34, .iconst 0, 35, 0), (35, .istore_n 1, 36, 0), (36, .iload_n 1, 37, 0), (37, .aload_n 0, 38, 0), (38, .iconst 0, 39, 0), (39, .invokevirtual 50, 42, 0), (42, .if_icmp .ge 36, 45, 78), (45, .iconst 0, 46, 0), (46, .istore_n 2, 47, 0), (47, .iload_n 2, 48, 0), (48, .iconst 5, 49, 0), (49, .if_icmp .ge 23, 52, 72), (52, .aload_n 0, 53, 0), (53, .aload_n 0, 54, 0), (54, .iload_n 1, 55, 0), (55, .bipush 8, 57, 0), (57, .iload_n 2, 58, 0), (58, .iadd, 59, 0), (59, .invokevirtual 266, 62, 0), (62, .i2l, 63, 0), (63, .invokevirtual 363, 66, 0), (66, .iinc 2 1, 69, 0), (69, .goto (-22), 72, 47), (72, .iinc 1 1, 75, 0), (75, .goto (-39), 78, 36), (78, .iconst 0, 79, 0), (79, .istore_n 1, 80, 0), (80, .iload_n 1, 81, 0), (81, .aload_n 0, 82, 0), (82, .iconst 1, 83, 0), (83, .invokevirtual 50, 86, 0), (86, .if_icmp .ge 40, 89, 126), (89, .iconst 0, 90, 0), (90, .istore_n 2, 91, 0), (91, .iload_n 2, 92, 0), (92, .aload_n 0, 93, 0), (93, .iconst 0, 94, 0), (94, .invokevirtual 50, 97, 0), (97, .if_icmp .ge 23, 100, 120), (100, .aload_n 0, 101, 0), (101, .aload_n 0, 102, 0), (102, .iload_n 1, 103, 0), (103, .iload_n 2, 104, 0), (104, .invokestatic 201, 107, 0), (107, .invokevirtual 50, 110, 0), (110, .i2l, 111, 0), (111, .invokevirtual 363, 114, 0), (114, .iinc 2 1, 117, 0), (117, .goto (-26), 120, 91), (120, .iinc 1 1, 123, 0), (123, .goto (-43), 126, 80), (126, .iconst 0, 127, 0), (127, .istore_n 1, 128, 0), (128, .iload_n 1, 129, 0), (129, .aload_n 0, 130, 0), (130, .iconst 2, 131, 0), (131, .invokevirtual 50, 134, 0), (134, .if_icmp .ge 14, 137, 148), (137, .aload_n 0, 138, 0), (138, .iload_n 1, 139, 0), (139, .invokevirtual 367, 142, 0), (142, .iinc 1 1, 145, 0), (145, .goto (-17), 148, 128), (148, .aload_n 0, 149, 0), (149, .getfield 359, 152, 0), (152, .lreturn, 153, 0)]
def mX11_checksum : XMI := (RX11, yX11_checksum, cX11_checksum, 3, (some FieldType.long), [], kX11_checksum)
theorem okX11_checksum : x_ok mX11_checksum := ⟨by decide +kernel, rfl, by decide⟩
end
section
/-! ===== rows of methods, by program ===== -/
def kX0_init : XK := [(0, .aload_n 0, 1, 0), (1, .invokespecial 3, 4, 0), (4, .aload_n 0, 5, 0), (5, .iload_n 1, 6, 0), (6, .putfield 9, 9, 0), (9, .aload_n 0, 10, 0), (10, .iload_n 2, 11, 0), (11, .putfield 15, 14, 0), (14, .aload_n 0, 15, 0), (15, .iload_n 3, 16, 0), (16, .putfield 19, 19, 0), (19, .aload_n 0, 20, 0), (20, .iload 4, 22, 0), (22, .putfield 22, 25, 0), (25, .return_, 26, 0)]
def mX0_init : XMI := (RX0, yX0_init, cX0_init, 5, (none), [], kX0_init)
theorem okX0_init : x_ok mX0_init := ⟨by decide +kernel, rfl, by decide⟩
def kX0_valueWith : XK := [(0, .aload_n 0, 1, 0), (1, .getfield 19, 4, 0), (4, .iconst 2, 5, 0), (5, .if_icmp .ne 30, 8, 35), (8, .aload_n 0, 9, 0), (9, .getfield 22, 12, 0), (12, .ifCond .lt 21, 15, 33), (15, .aload_n 0, 16, 0), (16, .getfield 22, 19, 0), (19, .aload_n 1, 20, 0), (20, .arraylength, 21, 0), (21, .if_icmp .ge 12, 24, 33), (24, .aload_n 1, 25, 0), (25, .aload_n 0, 26, 0), (26, .getfield 22, 29, 0), (29, .iaload, 30, 0), (30, .goto 4, 33, 34), (33, .iconst (-1), 34, 0), (34, .ireturn, 35, 0), (35, .aload_n 0, 36, 0), (36, .getfield 22, 39, 0), (39, .ireturn, 40, 0)]
def mX0_valueWith : XMI := (RX0, yX0_valueWith, cX0_valueWith, 2, (some FieldType.int), [], kX0_valueWith)
theorem okX0_valueWith : x_ok mX0_valueWith := ⟨by decide +kernel, rfl, by decide⟩
def kX0_matches : XK := [(0, .lconst 0, 1, 0), (1, .lstore_n 3, 2, 0), (2, .iconst 0, 3, 0), (3, .istore 5, 5, 0), (5, .iload 5, 7, 0), (7, .aload_n 1, 8, 0), (8, .getfield 25, 11, 0), (11, .if_icmp .ge 67, 14, 78), (14, .aload_n 1, 15, 0), (15, .iload 5, 17, 0), (17, .aload_n 0, 18, 0), (18, .getfield 9, 21, 0), (21, .invokevirtual 30, 24, 0), (24, .istore 6, 26, 0), (26, .aload_n 0, 27, 0), (27, .getfield 19, 30, 0), (30, .iconst 1, 31, 0), (31, .if_icmp .ne 16, 34, 47), (34, .aload_n 1, 35, 0), (35, .iload 5, 37, 0), (37, .aload_n 0, 38, 0), (38, .getfield 22, 41, 0), (41, .invokevirtual 30, 44, 0), (44, .goto 8, 47, 52), (47, .aload_n 0, 48, 0), (48, .aload_n 2, 49, 0), (49, .invokevirtual 34, 52, 0), (52, .istore 7, 54, 0), (54, .aload_n 0, 55, 0), (55, .iload 6, 57, 0), (57, .iload 7, 59, 0), (59, .invokevirtual 38, 62, 0), (62, .ifCond .eq 10, 65, 72), (65, .lload_n 3, 66, 0), (66, .lconst 1, 67, 0), (67, .iload 5, 69, 0), (69, .lshl, 70, 0), (70, .lor, 71, 0), (71, .lstore_n 3, 72, 0), (72, .iinc 5 1, 75, 0), (75, .goto (-70), 78, 5), (78, .lload_n 3, 79, 0), (79, .lreturn, 80, 0)]
def mX0_matches : XMI := (RX0, yX0_matches, cX0_matches, 8, (some FieldType.long), [], kX0_matches)
theorem okX0_matches : x_ok mX0_matches := ⟨by decide +kernel, rfl, by decide⟩
def kX0_holds : XK := [(0, .aload_n 0, 1, 0), (1, .getfield 15, 4, 0), (4, .lookupswitch 50 #[(60, 28), (62, 39)], 32, 0), (32, .iload_n 1, 33, 0), (33, .iload_n 2, 34, 0), (34, .if_icmp .ge 7, 37, 41), (37, .iconst 1, 38, 0), (38, .goto 4, 41, 42), (41, .iconst 0, 42, 0), (42, .ireturn, 43, 0), (43, .iload_n 1, 44, 0), (44, .iload_n 2, 45, 0), (45, .if_icmp .le 7, 48, 52), (48, .iconst 1, 49, 0), (49, .goto 4, 52, 53), (52, .iconst 0, 53, 0), (53, .ireturn, 54, 0), (54, .iload_n 1, 55, 0), (55, .iload_n 2, 56, 0), (56, .if_icmp .ne 7, 59, 63), (59, .iconst 1, 60, 0), (60, .goto 4, 63, 64), (63, .iconst 0, 64, 0), (64, .ireturn, 65, 0)]
def mX0_holds : XMI := (RX0, yX0_holds, cX0_holds, 3, (some FieldType.boolean), [], kX0_holds)
theorem okX0_holds : x_ok mX0_holds := ⟨by decide +kernel, rfl, by decide⟩
def kX0_addSargable : XK := [(0, .aload_n 0, 1, 0), (1, .getfield 19, 4, 0), (4, .iconst 1, 5, 0), (5, .if_icmp .eq 9, 8, 14), (8, .aload_n 1, 9, 0), (9, .aload_n 0, 10, 0), (10, .invokevirtual 42, 13, 0), (13, .pop, 14, 0), (14, .return_, 15, 0)]
def mX0_addSargable : XMI := (RX0, yX0_addSargable, cX0_addSargable, 2, (none), [], kX0_addSargable)
theorem okX0_addSargable : x_ok mX0_addSargable := ⟨by decide +kernel, rfl, by decide⟩
def kX1_init : XK := [(0, .aload_n 0, 1, 0), (1, .invokespecial 1, 4, 0), (4, .aload_n 0, 5, 0), (5, .new 7, 8, 0), (8, .dup, 9, 0), (9, .invokespecial 9, 12, 0), (12, .putfield 10, 15, 0), (15, .aload_n 0, 16, 0), (16, .iload_n 1, 17, 0), (17, .putfield 16, 20, 0), (20, .return_, 21, 0)]
def mX1_init : XMI := (RX1, yX1_init, cX1_init, 2, (none), [], kX1_init)
theorem okX1_init : x_ok mX1_init := ⟨by decide +kernel, rfl, by decide⟩
def kX1_matches : XK := [(0, .aload_n 1, 1, 0), (1, .invokevirtual 20, 4, 0), (4, .lstore_n 3, 5, 0), (5, .aload_n 0, 6, 0), (6, .getfield 16, 9, 0), (9, .ifCond .ne 7, 12, 16), (12, .lload_n 3, 13, 0), (13, .goto 4, 16, 17), (16, .lconst 0, 17, 0), (17, .lstore 5, 19, 0), (19, .iconst 0, 20, 0), (20, .istore 7, 22, 0), (22, .iload 7, 24, 0), (24, .aload_n 0, 25, 0), (25, .getfield 10, 28, 0), (28, .invokevirtual 26, 31, 0), (31, .if_icmp .ge 89, 34, 120), (34, .aload_n 0, 35, 0), (35, .getfield 10, 38, 0), (38, .iload 7, 40, 0), (40, .invokevirtual 30, 43, 0), (43, .checkcast 2, 46, 0), (46, .aload_n 1, 47, 0), (47, .aload_n 2, 48, 0), (48, .invokevirtual 34, 51, 0), (51, .lstore 8, 53, 0), (53, .aload_n 0, 54, 0), (54, .getfield 16, 57, 0), (57, .lookupswitch 47 #[(0, 27), (1, 37)], 84, 0), (84, .lload 5, 86, 0), (86, .lload 8, 88, 0), (88, .land, 89, 0), (89, .lstore 5, 91, 0), (91, .goto 23, 94, 114), (94, .lload 5, 96, 0), (96, .lload 8, 98, 0), (98, .lor, 99, 0), (99, .lstore 5, 101, 0), (101, .goto 13, 104, 114), (104, .lload_n 3, 105, 0), (105, .lload 8, 107, 0), (107, .ldc2_w 38, 110, 0), (110, .lxor, 111, 0), (111, .land, 112, 0), (112, .lstore 5, 114, 0), (114, .iinc 7 1, 117, 0), (117, .goto (-95), 120, 22), (120, .lload 5, 122, 0), (122, .lreturn, 123, 0)]
def mX1_matches : XMI := (RX1, yX1_matches, cX1_matches, 10, (some FieldType.long), [], kX1_matches)
theorem okX1_matches : x_ok mX1_matches := ⟨by decide +kernel, rfl, by decide⟩
def kX1_addSargable : XK := [(0, .aload_n 0, 1, 0), (1, .getfield 16, 4, 0), (4, .ifCond .eq 22, 7, 26), (7, .aload_n 0, 8, 0), (8, .getfield 16, 11, 0), (11, .iconst 1, 12, 0), (12, .if_icmp .ne 18, 15, 30), (15, .aload_n 0, 16, 0), (16, .getfield 10, 19, 0), (19, .invokevirtual 26, 22, 0), (22, .iconst 1, 23, 0), (23, .if_icmp .ne 7, 26, 30), (26, .iconst 1, 27, 0), (27, .goto 4, 30, 31), (30, .iconst 0, 31, 0), (31, .istore_n 2, 32, 0), (32, .iconst 0, 33, 0), (33, .istore_n 3, 34, 0), (34, .iload_n 2, 35, 0), (35, .ifCond .eq 35, 38, 70), (38, .iload_n 3, 39, 0), (39, .aload_n 0, 40, 0), (40, .getfield 10, 43, 0), (43, .invokevirtual 26, 46, 0), (46, .if_icmp .ge 24, 49, 70), (49, .aload_n 0, 50, 0), (50, .getfield 10, 53, 0), (53, .iload_n 3, 54, 0), (54, .invokevirtual 30, 57, 0), (57, .checkcast 2, 60, 0), (60, .aload_n 1, 61, 0), (61, .invokevirtual 40, 64, 0), (64, .iinc 3 1, 67, 0), (67, .goto (-33), 70, 34), (70, .return_, 71, 0)]
def mX1_addSargable : XMI := (RX1, yX1_addSargable, cX1_addSargable, 4, (none), [], kX1_addSargable)
theorem okX1_addSargable : x_ok mX1_addSargable := ⟨by decide +kernel, rfl, by decide⟩
def kX2_init : XK := [(0, .aload_n 0, 1, 0), (1, .invokespecial 1, 4, 0), (4, .return_, 5, 0)]
def mX2_init : XMI := (RX2, yX2_init, cX2_init, 1, (none), [], kX2_init)
theorem okX2_init : x_ok mX2_init := ⟨by decide +kernel, rfl, by decide⟩
def kX3_init : XK := [(0, .aload_n 0, 1, 0), (1, .invokespecial 3, 4, 0), (4, .aload_n 0, 5, 0), (5, .sipush 200, 8, 0), (8, .newarray .int, 10, 0), (10, .putfield 9, 13, 0), (13, .aload_n 0, 14, 0), (14, .iconst 5, 15, 0), (15, .newarray .boolean, 17, 0), (17, .putfield 15, 20, 0), (20, .aload_n 0, 21, 0), (21, .new 19, 24, 0), (24, .dup, 25, 0), (25, .invokespecial 21, 28, 0), (28, .putfield 22, 31, 0), (31, .aload_n 0, 32, 0), (32, .bipush 6, 34, 0), (34, .anewarray 26, 37, 0), (37, .putfield 28, 40, 0), (40, .aload_n 0, 41, 0), (41, .aload_n 1, 42, 0), (42, .putfield 32, 45, 0), (45, .iconst 0, 46, 0), (46, .istore_n 2, 47, 0), (47, .iload_n 2, 48, 0), (48, .bipush 6, 50, 0), (50, .if_icmp .ge 22, 53, 72), (53, .aload_n 0, 54, 0), (54, .getfield 28, 57, 0), (57, .iload_n 2, 58, 0), (58, .new 26, 61, 0), (61, .dup, 62, 0), (62, .invokespecial 36, 65, 0), (65, .aastore, 66, 0), (66, .iinc 2 1, 69, 0), (69, .goto (-22), 72, 47), (72, .return_, 73, 0)]
def mX3_init : XMI := (RX3, yX3_init, cX3_init, 3, (none), [], kX3_init)
theorem okX3_init : x_ok mX3_init := ⟨by decide +kernel, rfl, by decide⟩
def kX3_clear : XK := [(0, .aload_n 0, 1, 0), (1, .aload_n 1, 2, 0), (2, .putfield 32, 5, 0), (5, .aload_n 0, 6, 0), (6, .iconst 0, 7, 0), (7, .putfield 37, 10, 0), (10, .aload_n 0, 11, 0), (11, .iconst 0, 12, 0), (12, .putfield 41, 15, 0), (15, .iconst 0, 16, 0), (16, .istore_n 2, 17, 0), (17, .iload_n 2, 18, 0), (18, .iconst 5, 19, 0), (19, .if_icmp .ge 16, 22, 35), (22, .aload_n 0, 23, 0), (23, .getfield 15, 26, 0), (26, .iload_n 2, 27, 0), (27, .iconst 0, 28, 0), (28, .bastore, 29, 0), (29, .iinc 2 1, 32, 0), (32, .goto (-15), 35, 17), (35, .iconst 0, 36, 0), (36, .istore_n 2, 37, 0), (37, .iload_n 2, 38, 0), (38, .bipush 6, 40, 0), (40, .if_icmp .ge 18, 43, 58), (43, .aload_n 0, 44, 0), (44, .getfield 28, 47, 0), (47, .iload_n 2, 48, 0), (48, .aaload, 49, 0), (49, .invokevirtual 44, 52, 0), (52, .iinc 2 1, 55, 0), (55, .goto (-18), 58, 37), (58, .return_, 59, 0)]
def mX3_clear : XMI := (RX3, yX3_clear, cX3_clear, 3, (none), [], kX3_clear)
theorem okX3_clear : x_ok mX3_clear := ⟨by decide +kernel, rfl, by decide⟩
def kX3_copyFrom : XK := [(0, .aload_n 0, 1, 0), (1, .aload_n 1, 2, 0), (2, .getfield 32, 5, 0), (5, .putfield 32, 8, 0), (8, .aload_n 0, 9, 0), (9, .aload_n 1, 10, 0), (10, .getfield 37, 13, 0), (13, .putfield 37, 16, 0), (16, .aload_n 0, 17, 0), (17, .aload_n 1, 18, 0), (18, .getfield 41, 21, 0), (21, .putfield 41, 24, 0), (24, .aload_n 1, 25, 0), (25, .getfield 9, 28, 0), (28, .iconst 0, 29, 0), (29, .aload_n 0, 30, 0), (30, .getfield 9, 33, 0), (33, .iconst 0, 34, 0), (34, .sipush 200, 37, 0), (37, .invokestatic 47, 40, 0), (40, .aload_n 1, 41, 0), (41, .getfield 15, 44, 0), (44, .iconst 0, 45, 0), (45, .aload_n 0, 46, 0), (46, .getfield 15, 49, 0), (49, .iconst 0, 50, 0), (50, .iconst 5, 51, 0), (51, .invokestatic 47, 54, 0), (54, .aload_n 0, 55, 0), (55, .getfield 22, 58, 0), (58, .aload_n 1, 59, 0), (59, .getfield 22, 62, 0), (62, .invokevirtual 53, 65, 0), (65, .iconst 0, 66, 0), (66, .istore_n 2, 67, 0), (67, .iload_n 2, 68, 0), (68, .bipush 6, 70, 0), (70, .if_icmp .ge 24, 73, 94), (73, .aload_n 0, 74, 0), (74, .getfield 28, 77, 0), (77, .iload_n 2, 78, 0), (78, .aaload, 79, 0), (79, .aload_n 1, 80, 0), (80, .getfield 28, 83, 0), (83, .iload_n 2, 84, 0), (84, .aaload, 85, 0), (85, .invokevirtual 57, 88, 0), (88, .iinc 2 1, 91, 0), (91, .goto (-24), 94, 67), (94, .return_, 95, 0)]
def mX3_copyFrom : XMI := (RX3, yX3_copyFrom, cX3_copyFrom, 3, (none), [], kX3_copyFrom)
theorem okX3_copyFrom : x_ok mX3_copyFrom := ⟨by decide +kernel, rfl, by decide⟩
def kX3_isCell : XK := [(0, .iload_n 0, 1, 0), (1, .ifCond .lt 22, 4, 23), (4, .iload_n 0, 5, 0), (5, .bipush 40, 7, 0), (7, .if_icmp .ge 16, 10, 23), (10, .iload_n 1, 11, 0), (11, .ifCond .lt 12, 14, 23), (14, .iload_n 1, 15, 0), (15, .iconst 5, 16, 0), (16, .if_icmp .ge 7, 19, 23), (19, .iconst 1, 20, 0), (20, .goto 4, 23, 24), (23, .iconst 0, 24, 0), (24, .ireturn, 25, 0)]
def mX3_isCell : XMI := (RX3, yX3_isCell, cX3_isCell, 2, (some FieldType.boolean), [], kX3_isCell)
theorem okX3_isCell : x_ok mX3_isCell := ⟨by decide +kernel, rfl, by decide⟩
def kX3_cell : XK := [(0, .iload_n 1, 1, 0), (1, .iload_n 2, 2, 0), (2, .invokestatic 60, 5, 0), (5, .ifCond .eq 16, 8, 21), (8, .aload_n 0, 9, 0), (9, .getfield 9, 12, 0), (12, .iload_n 1, 13, 0), (13, .iconst 5, 14, 0), (14, .imul, 15, 0), (15, .iload_n 2, 16, 0), (16, .iadd, 17, 0), (17, .iaload, 18, 0), (18, .goto 4, 21, 22), (21, .iconst 0, 22, 0), (22, .ireturn, 23, 0)]
def mX3_cell : XMI := (RX3, yX3_cell, cX3_cell, 3, (some FieldType.int), [], kX3_cell)
theorem okX3_cell : x_ok mX3_cell := ⟨by decide +kernel, rfl, by decide⟩
def kX3_putCell : XK := [(0, .iload_n 1, 1, 0), (1, .iload_n 2, 2, 0), (2, .invokestatic 60, 5, 0), (5, .ifCond .eq 14, 8, 19), (8, .aload_n 0, 9, 0), (9, .getfield 9, 12, 0), (12, .iload_n 1, 13, 0), (13, .iconst 5, 14, 0), (14, .imul, 15, 0), (15, .iload_n 2, 16, 0), (16, .iadd, 17, 0), (17, .iload_n 3, 18, 0), (18, .iastore, 19, 0), (19, .return_, 20, 0)]
def mX3_putCell : XMI := (RX3, yX3_putCell, cX3_putCell, 4, (none), [], kX3_putCell)
theorem okX3_putCell : x_ok mX3_putCell := ⟨by decide +kernel, rfl, by decide⟩
def kX3_removeRow : XK := [(0, .iload_n 1, 1, 0), (1, .istore_n 2, 2, 0), (2, .iload_n 2, 3, 0), (3, .aload_n 0, 4, 0), (4, .getfield 37, 7, 0), (7, .iconst 1, 8, 0), (8, .isub, 9, 0), (9, .if_icmp .ge 36, 12, 45), (12, .iconst 0, 13, 0), (13, .istore_n 3, 14, 0), (14, .iload_n 3, 15, 0), (15, .iconst 5, 16, 0), (16, .if_icmp .ge 23, 19, 39), (19, .aload_n 0, 20, 0), (20, .iload_n 2, 21, 0), (21, .iload_n 3, 22, 0), (22, .aload_n 0, 23, 0), (23, .iload_n 2, 24, 0), (24, .iconst 1, 25, 0), (25, .iadd, 26, 0), (26, .iload_n 3, 27, 0), (27, .invokevirtual 64, 30, 0), (30, .invokevirtual 68, 33, 0), (33, .iinc 3 1, 36, 0), (36, .goto (-22), 39, 14), (39, .iinc 2 1, 42, 0), (42, .goto (-40), 45, 2), (45, .aload_n 0, 46, 0), (46, .dup, 47, 0), (47, .getfield 37, 50, 0), (50, .iconst 1, 51, 0), (51, .isub, 52, 0), (52, .putfield 37, 55, 0), (55, .return_, 56, 0)]
def mX3_removeRow : XMI := (RX3, yX3_removeRow, cX3_removeRow, 4, (none), [], kX3_removeRow)
theorem okX3_removeRow : x_ok mX3_removeRow := ⟨by decide +kernel, rfl, by decide⟩
def kX3_allRows : XK := [(0, .lconst 1, 1, 0), (1, .aload_n 0, 2, 0), (2, .getfield 37, 5, 0), (5, .lshl, 6, 0), (6, .lconst 1, 7, 0), (7, .lsub, 8, 0), (8, .lreturn, 9, 0)]
def mX3_allRows : XMI := (RX3, yX3_allRows, cX3_allRows, 1, (some FieldType.long), [], kX3_allRows)
theorem okX3_allRows : x_ok mX3_allRows := ⟨by decide +kernel, rfl, by decide⟩
def kX3_takeStatistics : XK := [(0, .aload_n 0, 1, 0), (1, .getfield 22, 4, 0), (4, .aload_n 0, 5, 0), (5, .getfield 37, 8, 0), (8, .putfield 72, 11, 0), (11, .iconst 0, 12, 0), (12, .istore_n 1, 13, 0), (13, .iload_n 1, 14, 0), (14, .aload_n 0, 15, 0), (15, .getfield 32, 18, 0), (18, .getfield 73, 21, 0), (21, .if_icmp .ge 14, 24, 35), (24, .aload_n 0, 25, 0), (25, .iload_n 1, 26, 0), (26, .invokevirtual 78, 29, 0), (29, .iinc 1 1, 32, 0), (32, .goto (-19), 35, 13), (35, .return_, 36, 0)]
def mX3_takeStatistics : XMI := (RX3, yX3_takeStatistics, cX3_takeStatistics, 2, (none), [], kX3_takeStatistics)
theorem okX3_takeStatistics : x_ok mX3_takeStatistics := ⟨by decide +kernel, rfl, by decide⟩
def kX3_takeStatisticsOf : XK := [(0, .iconst 0, 1, 0), (1, .istore_n 2, 2, 0), (2, .aload_n 0, 3, 0), (3, .getfield 37, 6, 0), (6, .ifCond .le 12, 9, 18), (9, .aload_n 0, 10, 0), (10, .iconst 0, 11, 0), (11, .iload_n 1, 12, 0), (12, .invokevirtual 64, 15, 0), (15, .goto 4, 18, 19), (18, .iconst 0, 19, 0), (19, .istore_n 3, 20, 0), (20, .iload_n 3, 21, 0), (21, .istore 4, 23, 0), (23, .iconst 0, 24, 0), (24, .istore 5, 26, 0), (26, .iload 5, 28, 0), (28, .aload_n 0, 29, 0), (29, .getfield 37, 32, 0), (32, .if_icmp .ge 52, 35, 84), (35, .aload_n 0, 36, 0), (36, .iload 5, 38, 0), (38, .iload_n 1, 39, 0), (39, .invokevirtual 64, 42, 0), (42, .istore 6, 44, 0), (44, .iload_n 3, 45, 0), (45, .iload 6, 47, 0), (47, .invokestatic 82, 50, 0), (50, .istore_n 3, 51, 0), (51, .iload 4, 53, 0), (53, .iload 6, 55, 0), (55, .invokestatic 87, 58, 0), (58, .istore 4, 60, 0), (60, .iload_n 2, 61, 0), (61, .aload_n 0, 62, 0), (62, .iload 5, 64, 0), (64, .iload_n 1, 65, 0), (65, .invokevirtual 90, 68, 0), (68, .ifCond .eq 7, 71, 75), (71, .iconst 1, 72, 0), (72, .goto 4, 75, 76), (75, .iconst 0, 76, 0), (76, .iadd, 77, 0), (77, .istore_n 2, 78, 0), (78, .iinc 5 1, 81, 0), (81, .goto (-55), 84, 26), (84, .aload_n 0, 85, 0), (85, .getfield 22, 88, 0), (88, .getfield 93, 91, 0), (91, .iload_n 1, 92, 0), (92, .iload_n 2, 93, 0), (93, .iastore, 94, 0), (94, .aload_n 0, 95, 0), (95, .getfield 22, 98, 0), (98, .getfield 96, 101, 0), (101, .iload_n 1, 102, 0), (102, .iload_n 3, 103, 0), (103, .iastore, 104, 0), (104, .aload_n 0, 105, 0), (105, .getfield 22, 108, 0), (108, .getfield 99, 111, 0), (111, .iload_n 1, 112, 0), (112, .iload 4, 114, 0), (114, .iastore, 115, 0), (115, .return_, 116, 0)]
def mX3_takeStatisticsOf : XMI := (RX3, yX3_takeStatisticsOf, cX3_takeStatisticsOf, 7, (none), [], kX3_takeStatisticsOf)
theorem okX3_takeStatisticsOf : x_ok mX3_takeStatisticsOf := ⟨by decide +kernel, rfl, by decide⟩
def kX3_isFirst : XK := [(0, .iconst 0, 1, 0), (1, .istore_n 3, 2, 0), (2, .iload_n 3, 3, 0), (3, .iload_n 1, 4, 0), (4, .if_icmp .ge 26, 7, 30), (7, .aload_n 0, 8, 0), (8, .iload_n 3, 9, 0), (9, .iload_n 2, 10, 0), (10, .invokevirtual 64, 13, 0), (13, .aload_n 0, 14, 0), (14, .iload_n 1, 15, 0), (15, .iload_n 2, 16, 0), (16, .invokevirtual 64, 19, 0), (19, .if_icmp .ne 5, 22, 24), (22, .iconst 0, 23, 0), (23, .ireturn, 24, 0), (24, .iinc 3 1, 27, 0), (27, .goto (-25), 30, 2), (30, .iconst 1, 31, 0), (31, .ireturn, 32, 0)]
def mX3_isFirst : XMI := (RX3, yX3_isFirst, cX3_isFirst, 4, (some FieldType.boolean), [], kX3_isFirst)
theorem okX3_isFirst : x_ok mX3_isFirst := ⟨by decide +kernel, rfl, by decide⟩
def kX3_findRows : XK := [(0, .aload_n 0, 1, 0), (1, .getfield 32, 4, 0), (4, .getfield 102, 7, 0), (7, .iload_n 1, 8, 0), (8, .invokevirtual 106, 11, 0), (11, .checkcast 112, 14, 0), (14, .getfield 114, 17, 0), (17, .aload_n 0, 18, 0), (18, .aload_n 2, 19, 0), (19, .invokevirtual 118, 22, 0), (22, .lreturn, 23, 0)]
def mX3_findRows : XMI := (RX3, yX3_findRows, cX3_findRows, 3, (some FieldType.long), [], kX3_findRows)
theorem okX3_findRows : x_ok mX3_findRows := ⟨by decide +kernel, rfl, by decide⟩
def kX3_chosenFor : XK := [(0, .aload_n 0, 1, 0), (1, .getfield 32, 4, 0), (4, .getfield 102, 7, 0), (7, .iload_n 1, 8, 0), (8, .invokevirtual 106, 11, 0), (11, .checkcast 112, 14, 0), (14, .getfield 124, 17, 0), (17, .astore 4, 19, 0), (19, .aconst_null, 20, 0), (20, .astore 5, 22, 0), (22, .iconst 0, 23, 0), (23, .istore 6, 25, 0), (25, .iconst 0, 26, 0), (26, .istore 7, 28, 0), (28, .iload 7, 30, 0), (30, .aload 4, 32, 0), (32, .invokevirtual 127, 35, 0), (35, .if_icmp .ge 62, 38, 97), (38, .aload 4, 40, 0), (40, .iload 7, 42, 0), (42, .invokevirtual 106, 45, 0), (45, .checkcast 131, 48, 0), (48, .astore 8, 50, 0), (50, .aload 8, 52, 0), (52, .getfield 133, 55, 0), (55, .iload_n 2, 56, 0), (56, .if_icmp .ne 35, 59, 91), (59, .aload_n 0, 60, 0), (60, .getfield 22, 63, 0), (63, .aload 8, 65, 0), (65, .aload_n 3, 66, 0), (66, .invokevirtual 136, 69, 0), (69, .istore 9, 71, 0), (71, .aload 5, 73, 0), (73, .ifnull 10, 76, 83), (76, .iload 9, 78, 0), (78, .iload 6, 80, 0), (80, .if_icmp .ge 11, 83, 91), (83, .aload 8, 85, 0), (85, .astore 5, 87, 0), (87, .iload 9, 89, 0), (89, .istore 6, 91, 0), (91, .iinc 7 1, 94, 0), (94, .goto (-66), 97, 28), (97, .aload 5, 99, 0), (99, .areturn, 100, 0)]
def mX3_chosenFor : XMI := (RX3, yX3_chosenFor, cX3_chosenFor, 10, (some (FieldType.object "PreparedPlans$Comparison")), [], kX3_chosenFor)
theorem okX3_chosenFor : x_ok mX3_chosenFor := ⟨by decide +kernel, rfl, by decide⟩
def kX3_costOf : XK := [(0, .iload_n 2, 1, 0), (1, .iconst (-1), 2, 0), (2, .if_icmp .ne 19, 5, 21), (5, .aload_n 0, 6, 0), (6, .getfield 32, 9, 0), (9, .getfield 140, 12, 0), (12, .aload_n 0, 13, 0), (13, .getfield 22, 16, 0), (16, .getfield 72, 19, 0), (19, .imul, 20, 0), (20, .ireturn, 21, 0), (21, .iload_n 2, 22, 0), (22, .ifCond .lt 17, 25, 39), (25, .iload_n 2, 26, 0), (26, .iconst 5, 27, 0), (27, .if_icmp .ge 12, 30, 39), (30, .aload_n 0, 31, 0), (31, .getfield 15, 34, 0), (34, .iload_n 2, 35, 0), (35, .baload, 36, 0), (36, .ifCond .ne 5, 39, 41), (39, .iconst (-1), 40, 0), (40, .ireturn, 41, 0), (41, .aload_n 0, 42, 0), (42, .iload_n 1, 43, 0), (43, .iload_n 2, 44, 0), (44, .aload_n 3, 45, 0), (45, .invokevirtual 143, 48, 0), (48, .astore 4, 50, 0), (50, .aload 4, 52, 0), (52, .ifnonnull 5, 55, 57), (55, .iconst (-1), 56, 0), (56, .ireturn, 57, 0), (57, .aload_n 0, 58, 0), (58, .getfield 22, 61, 0), (61, .aload 4, 63, 0), (63, .aload_n 3, 64, 0), (64, .invokevirtual 136, 67, 0), (67, .aload_n 0, 68, 0), (68, .getfield 28, 71, 0), (71, .iload_n 1, 72, 0), (72, .aaload, 73, 0), (73, .getfield 147, 76, 0), (76, .iload_n 2, 77, 0), (77, .iaload, 78, 0), (78, .imul, 79, 0), (79, .bipush 100, 81, 0), (81, .idiv, 82, 0), (82, .istore 5, 84, 0), (84, .aload_n 0, 85, 0), (85, .getfield 32, 88, 0), (88, .getfield 150, 91, 0), (91, .aload_n 0, 92, 0), (92, .getfield 32, 95, 0), (95, .getfield 153, 98, 0), (98, .iload 5, 100, 0), (100, .imul, 101, 0), (101, .iadd, 102, 0), (102, .ireturn, 103, 0)]
def mX3_costOf : XMI := (RX3, yX3_costOf, cX3_costOf, 6, (some FieldType.int), [], kX3_costOf)
theorem okX3_costOf : x_ok mX3_costOf := ⟨by decide +kernel, rfl, by decide⟩
def kX3_bestPlan : XK := [(0, .iconst (-1), 1, 0), (1, .istore_n 3, 2, 0), (2, .aload_n 0, 3, 0), (3, .iload_n 1, 4, 0), (4, .iconst (-1), 5, 0), (5, .aload_n 2, 6, 0), (6, .invokevirtual 156, 9, 0), (9, .istore 4, 11, 0), (11, .iconst 0, 12, 0), (12, .istore 5, 14, 0), (14, .iload 5, 16, 0), (16, .iconst 5, 17, 0), (17, .if_icmp .ge 39, 20, 56), (20, .aload_n 0, 21, 0), (21, .iload_n 1, 22, 0), (22, .iload 5, 24, 0), (24, .aload_n 2, 25, 0), (25, .invokevirtual 156, 28, 0), (28, .istore 6, 30, 0), (30, .iload 6, 32, 0), (32, .iconst (-1), 33, 0), (33, .if_icmp .eq 17, 36, 50), (36, .iload 6, 38, 0), (38, .iload 4, 40, 0), (40, .if_icmp .ge 10, 43, 50), (43, .iload 5, 45, 0), (45, .istore_n 3, 46, 0), (46, .iload 6, 48, 0), (48, .istore 4, 50, 0), (50, .iinc 5 1, 53, 0), (53, .goto (-39), 56, 14), (56, .iload_n 3, 57, 0), (57, .ireturn, 58, 0)]
def mX3_bestPlan : XMI := (RX3, yX3_bestPlan, cX3_bestPlan, 7, (some FieldType.int), [], kX3_bestPlan)
theorem okX3_bestPlan : x_ok mX3_bestPlan := ⟨by decide +kernel, rfl, by decide⟩
def kX3_choosePlan : XK := [(0, .aload_n 0, 1, 0), (1, .getfield 28, 4, 0), (4, .iload_n 1, 5, 0), (5, .aaload, 6, 0), (6, .astore_n 3, 7, 0), (7, .aload_n 3, 8, 0), (8, .getfield 160, 11, 0), (11, .aload_n 0, 12, 0), (12, .getfield 32, 15, 0), (15, .getfield 163, 18, 0), (18, .if_icmp .lt 62, 21, 80), (21, .aload_n 3, 22, 0), (22, .aload_n 0, 23, 0), (23, .getfield 41, 26, 0), (26, .invokevirtual 166, 29, 0), (29, .ifCond .ne 33, 32, 62), (32, .aload_n 0, 33, 0), (33, .iload_n 1, 34, 0), (34, .getstatic 170, 37, 0), (37, .invokevirtual 173, 40, 0), (40, .istore 4, 42, 0), (42, .aload_n 3, 43, 0), (43, .iload 4, 45, 0), (45, .aload_n 0, 46, 0), (46, .iload_n 1, 47, 0), (47, .iload 4, 49, 0), (49, .getstatic 170, 52, 0), (52, .invokevirtual 156, 55, 0), (55, .aload_n 0, 56, 0), (56, .getfield 41, 59, 0), (59, .invokevirtual 177, 62, 0), (62, .aload_n 3, 63, 0), (63, .invokevirtual 180, 66, 0), (66, .ifCond .eq 14, 69, 80), (69, .iconst 2, 70, 0), (70, .aload_n 3, 71, 0), (71, .getfield 184, 74, 0), (74, .iconst 1, 75, 0), (75, .iadd, 76, 0), (76, .imul, 77, 0), (77, .iconst 1, 78, 0), (78, .iadd, 79, 0), (79, .ireturn, 80, 0), (80, .iconst 2, 81, 0), (81, .aload_n 0, 82, 0), (82, .iload_n 1, 83, 0), (83, .aload_n 2, 84, 0), (84, .invokevirtual 173, 87, 0), (87, .iconst 1, 88, 0), (88, .iadd, 89, 0), (89, .imul, 90, 0), (90, .ireturn, 91, 0)]
def mX3_choosePlan : XMI := (RX3, yX3_choosePlan, cX3_choosePlan, 5, (some FieldType.int), [], kX3_choosePlan)
theorem okX3_choosePlan : x_ok mX3_choosePlan := ⟨by decide +kernel, rfl, by decide⟩
def kX3_execute : XK := [(0, .aload_n 0, 1, 0), (1, .getfield 28, 4, 0), (4, .iload_n 1, 5, 0), (5, .aaload, 6, 0), (6, .astore_n 3, 7, 0), (7, .aload_n 0, 8, 0), (8, .iload_n 1, 9, 0), (9, .aload_n 2, 10, 0), (10, .invokevirtual 187, 13, 0), (13, .istore 4, 15, 0), (15, .iload 4, 17, 0), (17, .iconst 2, 18, 0), (18, .idiv, 19, 0), (19, .iconst 1, 20, 0), (20, .isub, 21, 0), (21, .istore 5, 23, 0), (23, .iload 4, 25, 0), (25, .iconst 2, 26, 0), (26, .irem, 27, 0), (27, .iconst 1, 28, 0), (28, .if_icmp .ne 7, 31, 35), (31, .iconst 1, 32, 0), (32, .goto 4, 35, 36), (35, .iconst 0, 36, 0), (36, .istore 6, 38, 0), (38, .iload 6, 40, 0), (40, .ifCond .ne 30, 43, 70), (43, .aload_n 3, 44, 0), (44, .dup, 45, 0), (45, .getfield 190, 48, 0), (48, .iconst 1, 49, 0), (49, .iadd, 50, 0), (50, .putfield 190, 53, 0), (53, .aload_n 3, 54, 0), (54, .dup, 55, 0), (55, .getfield 193, 58, 0), (58, .aload_n 0, 59, 0), (59, .iload_n 1, 60, 0), (60, .iload 5, 62, 0), (62, .aload_n 2, 63, 0), (63, .invokevirtual 156, 66, 0), (66, .iadd, 67, 0), (67, .putfield 193, 70, 0), (70, .aload_n 0, 71, 0), (71, .iload_n 1, 72, 0), (72, .iload 5, 74, 0), (74, .iload 6, 76, 0), (76, .ifCond .eq 9, 79, 85), (79, .getstatic 170, 82, 0), (82, .goto 4, 85, 86), (85, .aload_n 2, 86, 0), (86, .invokevirtual 143, 89, 0), (89, .astore 7, 91, 0), (91, .iload 5, 93, 0), (93, .iconst (-1), 94, 0), (94, .if_icmp .eq 8, 97, 102), (97, .aload 7, 99, 0), (99, .ifnonnull 19, 102, 118), (102, .aload_n 3, 103, 0), (103, .dup, 104, 0), (104, .getfield 196, 107, 0), (107, .aload_n 0, 108, 0), (108, .getfield 37, 111, 0), (111, .iadd, 112, 0), (112, .putfield 196, 115, 0), (115, .goto 55, 118, 170), (118, .aload 7, 120, 0), (120, .aload_n 0, 121, 0), (121, .aload_n 2, 122, 0), (122, .invokevirtual 199, 125, 0), (125, .invokestatic 200, 128, 0), (128, .istore 8, 130, 0), (130, .aload_n 3, 131, 0), (131, .dup, 132, 0), (132, .getfield 196, 135, 0), (135, .iload 8, 137, 0), (137, .iadd, 138, 0), (138, .putfield 196, 141, 0), (141, .aload_n 3, 142, 0), (142, .iload 5, 144, 0), (144, .iload 8, 146, 0), (146, .aload_n 0, 147, 0), (147, .getfield 22, 150, 0), (150, .aload 7, 152, 0), (152, .iload 6, 154, 0), (154, .ifCond .eq 9, 157, 163), (157, .getstatic 170, 160, 0), (160, .goto 4, 163, 164), (163, .aload_n 2, 164, 0), (164, .invokevirtual 136, 167, 0), (167, .invokevirtual 206, 170, 0), (170, .aload_n 3, 171, 0), (171, .dup, 172, 0), (172, .getfield 160, 175, 0), (175, .iconst 1, 176, 0), (176, .iadd, 177, 0), (177, .putfield 160, 180, 0), (180, .return_, 181, 0)]
def mX3_execute : XMI := (RX3, yX3_execute, cX3_execute, 9, (none), [], kX3_execute)
theorem okX3_execute : x_ok mX3_execute := ⟨by decide +kernel, rfl, by decide⟩
def kX4_init : XK := [(0, .aload_n 0, 1, 0), (1, .invokespecial 1, 4, 0), (4, .aload_n 0, 5, 0), (5, .new 7, 8, 0), (8, .dup, 9, 0), (9, .invokespecial 9, 12, 0), (12, .putfield 10, 15, 0), (15, .aload_n 0, 16, 0), (16, .lload_n 1, 17, 0), (17, .putfield 16, 20, 0), (20, .aload_n 0, 21, 0), (21, .aload_n 3, 22, 0), (22, .putfield 20, 25, 0), (25, .aload_n 0, 26, 0), (26, .aload 4, 28, 0), (28, .putfield 24, 31, 0), (31, .return_, 32, 0)]
def mX4_init : XMI := (RX4, yX4_init, cX4_init, 5, (none), [], kX4_init)
theorem okX4_init : x_ok mX4_init := ⟨by decide +kernel, rfl, by decide⟩
def kX5_init : XK := [(0, .aload_n 0, 1, 0), (1, .invokespecial 3, 4, 0), (4, .aload_n 0, 5, 0), (5, .iconst 5, 6, 0), (6, .newarray .long, 8, 0), (8, .putfield 9, 11, 0), (11, .aload_n 0, 12, 0), (12, .iconst 5, 13, 0), (13, .newarray .int, 15, 0), (15, .putfield 15, 18, 0), (18, .aload_n 0, 19, 0), (19, .new 19, 22, 0), (22, .dup, 23, 0), (23, .invokespecial 21, 26, 0), (26, .putfield 22, 29, 0), (29, .aload_n 0, 30, 0), (30, .iconst 1, 31, 0), (31, .putfield 26, 34, 0), (34, .aload_n 0, 35, 0), (35, .iconst 3, 36, 0), (36, .putfield 30, 39, 0), (39, .aload_n 0, 40, 0), (40, .iconst 2, 41, 0), (41, .putfield 33, 44, 0), (44, .aload_n 0, 45, 0), (45, .iconst 3, 46, 0), (46, .putfield 36, 49, 0), (49, .return_, 50, 0)]
def mX5_init : XMI := (RX5, yX5_init, cX5_init, 1, (none), [], kX5_init)
theorem okX5_init : x_ok mX5_init := ⟨by decide +kernel, rfl, by decide⟩
def kX5_addColumn : XK := [(0, .aload_n 0, 1, 0), (1, .getfield 39, 4, 0), (4, .iconst 5, 5, 0), (5, .if_icmp .ge 33, 8, 38), (8, .aload_n 0, 9, 0), (9, .getfield 9, 12, 0), (12, .aload_n 0, 13, 0), (13, .getfield 39, 16, 0), (16, .lload_n 1, 17, 0), (17, .lastore, 18, 0), (18, .aload_n 0, 19, 0), (19, .getfield 15, 22, 0), (22, .aload_n 0, 23, 0), (23, .getfield 39, 26, 0), (26, .iload_n 3, 27, 0), (27, .iastore, 28, 0), (28, .aload_n 0, 29, 0), (29, .dup, 30, 0), (30, .getfield 39, 33, 0), (33, .iconst 1, 34, 0), (34, .iadd, 35, 0), (35, .putfield 39, 38, 0), (38, .return_, 39, 0)]
def mX5_addColumn : XMI := (RX5, yX5_addColumn, cX5_addColumn, 4, (none), [], kX5_addColumn)
theorem okX5_addColumn : x_ok mX5_addColumn := ⟨by decide +kernel, rfl, by decide⟩
def kX5_typeOf : XK := [(0, .iload_n 1, 1, 0), (1, .ifCond .lt 20, 4, 21), (4, .iload_n 1, 5, 0), (5, .aload_n 0, 6, 0), (6, .getfield 39, 9, 0), (9, .if_icmp .ge 12, 12, 21), (12, .aload_n 0, 13, 0), (13, .getfield 15, 16, 0), (16, .iload_n 1, 17, 0), (17, .iaload, 18, 0), (18, .goto 4, 21, 22), (21, .iconst (-1), 22, 0), (22, .ireturn, 23, 0)]
def mX5_typeOf : XMI := (RX5, yX5_typeOf, cX5_typeOf, 2, (some FieldType.int), [], kX5_typeOf)
theorem okX5_typeOf : x_ok mX5_typeOf := ⟨by decide +kernel, rfl, by decide⟩
def kX5_findColumn : XK := [(0, .iconst 0, 1, 0), (1, .istore_n 3, 2, 0), (2, .iload_n 3, 3, 0), (3, .aload_n 0, 4, 0), (4, .getfield 39, 7, 0), (7, .if_icmp .ge 22, 10, 29), (10, .aload_n 0, 11, 0), (11, .getfield 9, 14, 0), (14, .iload_n 3, 15, 0), (15, .laload, 16, 0), (16, .lload_n 1, 17, 0), (17, .lcmp, 18, 0), (18, .ifCond .ne 5, 21, 23), (21, .iload_n 3, 22, 0), (22, .ireturn, 23, 0), (23, .iinc 3 1, 26, 0), (26, .goto (-24), 29, 2), (29, .iconst (-1), 30, 0), (30, .ireturn, 31, 0)]
def mX5_findColumn : XMI := (RX5, yX5_findColumn, cX5_findColumn, 4, (some FieldType.int), [], kX5_findColumn)
theorem okX5_findColumn : x_ok mX5_findColumn := ⟨by decide +kernel, rfl, by decide⟩
def kX5_findStatement : XK := [(0, .iconst 0, 1, 0), (1, .istore_n 3, 2, 0), (2, .iload_n 3, 3, 0), (3, .aload_n 0, 4, 0), (4, .getfield 22, 7, 0), (7, .invokevirtual 42, 10, 0), (10, .if_icmp .ge 30, 13, 40), (13, .aload_n 0, 14, 0), (14, .getfield 22, 17, 0), (17, .iload_n 3, 18, 0), (18, .invokevirtual 46, 21, 0), (21, .checkcast 50, 24, 0), (24, .getfield 52, 27, 0), (27, .lload_n 1, 28, 0), (28, .lcmp, 29, 0), (29, .ifCond .ne 5, 32, 34), (32, .iload_n 3, 33, 0), (33, .ireturn, 34, 0), (34, .iinc 3 1, 37, 0), (37, .goto (-35), 40, 2), (40, .iconst (-1), 41, 0), (41, .ireturn, 42, 0)]
def mX5_findStatement : XMI := (RX5, yX5_findStatement, cX5_findStatement, 4, (some FieldType.int), [], kX5_findStatement)
theorem okX5_findStatement : x_ok mX5_findStatement := ⟨by decide +kernel, rfl, by decide⟩
def kX6_init : XK := [(0, .aload_n 0, 1, 0), (1, .invokespecial 3, 4, 0), (4, .aload_n 0, 5, 0), (5, .new 9, 8, 0), (8, .dup, 9, 0), (9, .invokespecial 11, 12, 0), (12, .putfield 12, 15, 0), (15, .aload_n 0, 16, 0), (16, .iconst 4, 17, 0), (17, .newarray .int, 19, 0), (19, .putfield 18, 22, 0), (22, .aload_n 0, 23, 0), (23, .iconst (-1), 24, 0), (24, .putfield 22, 27, 0), (27, .aload_n 0, 28, 0), (28, .aload_n 1, 29, 0), (29, .putfield 26, 32, 0), (32, .aload_n 0, 33, 0), (33, .aload_n 2, 34, 0), (34, .putfield 30, 37, 0), (37, .return_, 38, 0)]
def mX6_init : XMI := (RX6, yX6_init, cX6_init, 3, (none), [], kX6_init)
theorem okX6_init : x_ok mX6_init := ⟨by decide +kernel, rfl, by decide⟩
def kX6_readSetup : XK := [(0, .aload_n 0, 1, 0), (1, .getfield 30, 4, 0), (4, .aload_n 0, 5, 0), (5, .getfield 12, 8, 0), (8, .invokevirtual 34, 11, 0), (11, .aload_n 0, 12, 0), (12, .getfield 26, 15, 0), (15, .invokevirtual 40, 18, 0), (18, .aload_n 0, 19, 0), (19, .ldc 45, 21, 0), (21, .invokevirtual 47, 24, 0), (24, .aload_n 0, 25, 0), (25, .bipush 59, 27, 0), (27, .invokevirtual 51, 30, 0), (30, .iconst 0, 31, 0), (31, .istore_n 1, 32, 0), (32, .iload_n 1, 33, 0), (33, .iconst 5, 34, 0), (34, .if_icmp .gt 25, 37, 59), (37, .aload_n 0, 38, 0), (38, .getfield 26, 41, 0), (41, .ldc 55, 43, 0), (43, .invokevirtual 57, 46, 0), (46, .ifCond .eq 13, 49, 59), (49, .aload_n 0, 50, 0), (50, .invokevirtual 61, 53, 0), (53, .iinc 1 1, 56, 0), (56, .goto (-24), 59, 32), (59, .iconst 0, 60, 0), (60, .istore_n 1, 61, 0), (61, .iload_n 1, 62, 0), (62, .iconst 5, 63, 0), (63, .if_icmp .gt 25, 66, 88), (66, .aload_n 0, 67, 0), (67, .getfield 26, 70, 0), (70, .ldc 64, 72, 0), (72, .invokevirtual 57, 75, 0), (75, .ifCond .eq 13, 78, 88), (78, .aload_n 0, 79, 0), (79, .invokevirtual 66, 82, 0), (82, .iinc 1 1, 85, 0), (85, .goto (-24), 88, 61), (88, .iconst 0, 89, 0), (89, .istore_n 1, 90, 0), (90, .iload_n 1, 91, 0), (91, .bipush 40, 93, 0), (93, .if_icmp .gt 25, 96, 118), (96, .aload_n 0, 97, 0), (97, .getfield 26, 100, 0), (100, .ldc 69, 102, 0), (102, .invokevirtual 57, 105, 0), (105, .ifCond .eq 13, 108, 118), (108, .aload_n 0, 109, 0), (109, .invokevirtual 71, 112, 0), (112, .iinc 1 1, 115, 0), (115, .goto (-25), 118, 90), (118, .iconst 0, 119, 0), (119, .istore_n 1, 120, 0), (120, .iload_n 1, 121, 0), (121, .bipush 6, 123, 0), (123, .if_icmp .gt 25, 126, 148), (126, .aload_n 0, 127, 0), (127, .getfield 26, 130, 0), (130, .ldc 74, 132, 0), (132, .invokevirtual 57, 135, 0), (135, .ifCond .eq 13, 138, 148), (138, .aload_n 0, 139, 0), (139, .invokevirtual 76, 142, 0), (142, .iinc 1 1, 145, 0), (145, .goto (-25), 148, 120), (148, .aload_n 0, 149, 0), (149, .invokevirtual 79, 152, 0), (152, .aload_n 0, 153, 0), (153, .invokevirtual 82, 156, 0), (156, .aload_n 0, 157, 0), (157, .getfield 26, 160, 0), (160, .getfield 85, 163, 0), (163, .sipush 256, 166, 0), (166, .if_icmp .eq 16, 169, 182), (169, .aload_n 0, 170, 0), (170, .bipush (-2), 172, 0), (172, .aload_n 0, 173, 0), (173, .getfield 26, 176, 0), (176, .getfield 88, 179, 0), (179, .invokevirtual 91, 182, 0), (182, .aload_n 0, 183, 0), (183, .getfield 30, 186, 0), (186, .invokevirtual 95, 189, 0), (189, .return_, 190, 0)]
def mX6_readSetup : XMI := (RX6, yX6_readSetup, cX6_readSetup, 2, (none), [], kX6_readSetup)
theorem okX6_readSetup : x_ok mX6_readSetup := ⟨by decide +kernel, rfl, by decide⟩
def kX6_fail : XK := [(0, .aload_n 0, 1, 0), (1, .getfield 98, 4, 0), (4, .ifCond .ne 31, 7, 35), (7, .aload_n 0, 8, 0), (8, .iload_n 1, 9, 0), (9, .putfield 98, 12, 0), (12, .aload_n 0, 13, 0), (13, .iload_n 2, 14, 0), (14, .putfield 22, 17, 0), (17, .aload_n 0, 18, 0), (18, .getfield 26, 21, 0), (21, .iconst 0, 22, 0), (22, .putfield 101, 25, 0), (25, .aload_n 0, 26, 0), (26, .getfield 26, 29, 0), (29, .sipush 256, 32, 0), (32, .putfield 85, 35, 0), (35, .return_, 36, 0)]
def mX6_fail : XMI := (RX6, yX6_fail, cX6_fail, 3, (none), [], kX6_fail)
theorem okX6_fail : x_ok mX6_fail := ⟨by decide +kernel, rfl, by decide⟩
def kX6_expectWord : XK := [(0, .aload_n 0, 1, 0), (1, .getfield 26, 4, 0), (4, .aload_n 1, 5, 0), (5, .invokevirtual 57, 8, 0), (8, .ifCond .ne 16, 11, 24), (11, .aload_n 0, 12, 0), (12, .bipush (-2), 14, 0), (14, .aload_n 0, 15, 0), (15, .getfield 26, 18, 0), (18, .getfield 88, 21, 0), (21, .invokevirtual 91, 24, 0), (24, .aload_n 0, 25, 0), (25, .getfield 26, 28, 0), (28, .invokevirtual 40, 31, 0), (31, .return_, 32, 0)]
def mX6_expectWord : XMI := (RX6, yX6_expectWord, cX6_expectWord, 2, (none), [], kX6_expectWord)
theorem okX6_expectWord : x_ok mX6_expectWord := ⟨by decide +kernel, rfl, by decide⟩
def kX6_expectByte : XK := [(0, .aload_n 0, 1, 0), (1, .getfield 26, 4, 0), (4, .getfield 85, 7, 0), (7, .iload_n 1, 8, 0), (8, .if_icmp .eq 16, 11, 24), (11, .aload_n 0, 12, 0), (12, .bipush (-2), 14, 0), (14, .aload_n 0, 15, 0), (15, .getfield 26, 18, 0), (18, .getfield 88, 21, 0), (21, .invokevirtual 91, 24, 0), (24, .aload_n 0, 25, 0), (25, .getfield 26, 28, 0), (28, .invokevirtual 40, 31, 0), (31, .return_, 32, 0)]
def mX6_expectByte : XMI := (RX6, yX6_expectByte, cX6_expectByte, 2, (none), [], kX6_expectByte)
theorem okX6_expectByte : x_ok mX6_expectByte := ⟨by decide +kernel, rfl, by decide⟩
def kX6_takeNumber : XK := [(0, .aload_n 0, 1, 0), (1, .getfield 26, 4, 0), (4, .getfield 104, 7, 0), (7, .lstore_n 2, 8, 0), (8, .aload_n 0, 9, 0), (9, .getfield 26, 12, 0), (12, .getfield 85, 15, 0), (15, .sipush 262, 18, 0), (18, .if_icmp .eq 18, 21, 36), (21, .aload_n 0, 22, 0), (22, .bipush (-2), 24, 0), (24, .aload_n 0, 25, 0), (25, .getfield 26, 28, 0), (28, .getfield 88, 31, 0), (31, .invokevirtual 91, 34, 0), (34, .iconst 0, 35, 0), (35, .ireturn, 36, 0), (36, .lload_n 2, 37, 0), (37, .iload_n 1, 38, 0), (38, .i2l, 39, 0), (39, .lcmp, 40, 0), (40, .ifCond .le 18, 43, 58), (43, .aload_n 0, 44, 0), (44, .bipush (-3), 46, 0), (46, .aload_n 0, 47, 0), (47, .getfield 26, 50, 0), (50, .getfield 88, 53, 0), (53, .invokevirtual 91, 56, 0), (56, .iconst 0, 57, 0), (57, .ireturn, 58, 0), (58, .aload_n 0, 59, 0), (59, .getfield 26, 62, 0), (62, .invokevirtual 40, 65, 0), (65, .lload_n 2, 66, 0), (66, .l2i, 67, 0), (67, .ireturn, 68, 0)]
def mX6_takeNumber : XMI := (RX6, yX6_takeNumber, cX6_takeNumber, 4, (some FieldType.int), [], kX6_takeNumber)
theorem okX6_takeNumber : x_ok mX6_takeNumber := ⟨by decide +kernel, rfl, by decide⟩
def kX6_takeName : XK := [(0, .aload_n 0, 1, 0), (1, .getfield 26, 4, 0), (4, .getfield 104, 7, 0), (7, .lstore_n 1, 8, 0), (8, .aload_n 0, 9, 0), (9, .getfield 26, 12, 0), (12, .getfield 85, 15, 0), (15, .sipush 257, 18, 0), (18, .if_icmp .eq 18, 21, 36), (21, .aload_n 0, 22, 0), (22, .bipush (-2), 24, 0), (24, .aload_n 0, 25, 0), (25, .getfield 26, 28, 0), (28, .getfield 88, 31, 0), (31, .invokevirtual 91, 34, 0), (34, .lconst 0, 35, 0), (35, .lreturn, 36, 0), (36, .aload_n 0, 37, 0), (37, .getfield 26, 40, 0), (40, .invokevirtual 40, 43, 0), (43, .lload_n 1, 44, 0), (44, .lreturn, 45, 0)]
def mX6_takeName : XMI := (RX6, yX6_takeName, cX6_takeName, 3, (some FieldType.long), [], kX6_takeName)
theorem okX6_takeName : x_ok mX6_takeName := ⟨by decide +kernel, rfl, by decide⟩
def kX6_takeColumn : XK := [(0, .aload_n 0, 1, 0), (1, .getfield 26, 4, 0), (4, .getfield 88, 7, 0), (7, .istore_n 1, 8, 0), (8, .aload_n 0, 9, 0), (9, .getfield 12, 12, 0), (12, .aload_n 0, 13, 0), (13, .invokevirtual 108, 16, 0), (16, .invokevirtual 112, 19, 0), (19, .istore_n 2, 20, 0), (20, .iload_n 2, 21, 0), (21, .ifCond .ge 10, 24, 31), (24, .aload_n 0, 25, 0), (25, .bipush (-4), 27, 0), (27, .iload_n 1, 28, 0), (28, .invokevirtual 91, 31, 0), (31, .iload_n 2, 32, 0), (32, .ireturn, 33, 0)]
def mX6_takeColumn : XMI := (RX6, yX6_takeColumn, cX6_takeColumn, 3, (some FieldType.int), [], kX6_takeColumn)
theorem okX6_takeColumn : x_ok mX6_takeColumn := ⟨by decide +kernel, rfl, by decide⟩
def kX6_readColumn : XK := [(0, .aload_n 0, 1, 0), (1, .getfield 12, 4, 0), (4, .getfield 116, 7, 0), (7, .iconst 5, 8, 0), (8, .if_icmp .lt 16, 11, 24), (11, .aload_n 0, 12, 0), (12, .bipush (-7), 14, 0), (14, .aload_n 0, 15, 0), (15, .getfield 26, 18, 0), (18, .getfield 88, 21, 0), (21, .invokevirtual 91, 24, 0), (24, .aload_n 0, 25, 0), (25, .getfield 26, 28, 0), (28, .invokevirtual 40, 31, 0), (31, .aload_n 0, 32, 0), (32, .getfield 26, 35, 0), (35, .getfield 88, 38, 0), (38, .istore_n 1, 39, 0), (39, .aload_n 0, 40, 0), (40, .invokevirtual 108, 43, 0), (43, .lstore_n 2, 44, 0), (44, .aload_n 0, 45, 0), (45, .getfield 12, 48, 0), (48, .lload_n 2, 49, 0), (49, .invokevirtual 112, 52, 0), (52, .ifCond .lt 10, 55, 62), (55, .aload_n 0, 56, 0), (56, .bipush (-5), 58, 0), (58, .iload_n 1, 59, 0), (59, .invokevirtual 91, 62, 0), (62, .aload_n 0, 63, 0), (63, .invokevirtual 119, 66, 0), (66, .istore 4, 68, 0), (68, .aload_n 0, 69, 0), (69, .bipush 59, 71, 0), (71, .invokevirtual 51, 74, 0), (74, .aload_n 0, 75, 0), (75, .getfield 12, 78, 0), (78, .lload_n 2, 79, 0), (79, .iload 4, 81, 0), (81, .invokevirtual 123, 84, 0), (84, .return_, 85, 0)]
def mX6_readColumn : XMI := (RX6, yX6_readColumn, cX6_readColumn, 5, (none), [], kX6_readColumn)
theorem okX6_readColumn : x_ok mX6_readColumn := ⟨by decide +kernel, rfl, by decide⟩
def kX6_takeType : XK := [(0, .iconst (-1), 1, 0), (1, .istore_n 1, 2, 0), (2, .aload_n 0, 3, 0), (3, .getfield 26, 6, 0), (6, .ldc 127, 8, 0), (8, .invokevirtual 57, 11, 0), (11, .ifCond .eq 8, 14, 19), (14, .iconst 0, 15, 0), (15, .istore_n 1, 16, 0), (16, .goto 50, 19, 66), (19, .aload_n 0, 20, 0), (20, .getfield 26, 23, 0), (23, .ldc 129, 25, 0), (25, .invokevirtual 57, 28, 0), (28, .ifCond .eq 8, 31, 36), (31, .iconst 1, 32, 0), (32, .istore_n 1, 33, 0), (33, .goto 33, 36, 66), (36, .aload_n 0, 37, 0), (37, .getfield 26, 40, 0), (40, .ldc 131, 42, 0), (42, .invokevirtual 57, 45, 0), (45, .ifCond .eq 8, 48, 53), (48, .iconst 2, 49, 0), (49, .istore_n 1, 50, 0), (50, .goto 16, 53, 66), (53, .aload_n 0, 54, 0), (54, .bipush (-2), 56, 0), (56, .aload_n 0, 57, 0), (57, .getfield 26, 60, 0), (60, .getfield 88, 63, 0), (63, .invokevirtual 91, 66, 0), (66, .aload_n 0, 67, 0), (67, .getfield 26, 70, 0), (70, .invokevirtual 40, 73, 0), (73, .iload_n 1, 74, 0), (74, .ireturn, 75, 0)]
def mX6_takeType : XMI := (RX6, yX6_takeType, cX6_takeType, 2, (some FieldType.int), [], kX6_takeType)
theorem okX6_takeType : x_ok mX6_takeType := ⟨by decide +kernel, rfl, by decide⟩
def kX6_readIndex : XK := [(0, .aload_n 0, 1, 0), (1, .getfield 26, 4, 0), (4, .invokevirtual 40, 7, 0), (7, .aload_n 0, 8, 0), (8, .getfield 26, 11, 0), (11, .getfield 88, 14, 0), (14, .istore_n 1, 15, 0), (15, .aload_n 0, 16, 0), (16, .invokevirtual 133, 19, 0), (19, .istore_n 2, 20, 0), (20, .iload_n 2, 21, 0), (21, .ifCond .lt 37, 24, 58), (24, .iload_n 2, 25, 0), (25, .iconst 5, 26, 0), (26, .if_icmp .ge 32, 29, 58), (29, .aload_n 0, 30, 0), (30, .getfield 30, 33, 0), (33, .getfield 136, 36, 0), (36, .iload_n 2, 37, 0), (37, .baload, 38, 0), (38, .ifCond .eq 10, 41, 48), (41, .aload_n 0, 42, 0), (42, .bipush (-5), 44, 0), (44, .iload_n 1, 45, 0), (45, .invokevirtual 91, 48, 0), (48, .aload_n 0, 49, 0), (49, .getfield 30, 52, 0), (52, .getfield 136, 55, 0), (55, .iload_n 2, 56, 0), (56, .iconst 1, 57, 0), (57, .bastore, 58, 0), (58, .aload_n 0, 59, 0), (59, .bipush 59, 61, 0), (61, .invokevirtual 51, 64, 0), (64, .return_, 65, 0)]
def mX6_readIndex : XMI := (RX6, yX6_readIndex, cX6_readIndex, 3, (none), [], kX6_readIndex)
theorem okX6_readIndex : x_ok mX6_readIndex := ⟨by decide +kernel, rfl, by decide⟩
def kX6_readRow : XK := [(0, .aload_n 0, 1, 0), (1, .getfield 12, 4, 0), (4, .getfield 116, 7, 0), (7, .ifCond .ne 16, 10, 23), (10, .aload_n 0, 11, 0), (11, .bipush (-2), 13, 0), (13, .aload_n 0, 14, 0), (14, .getfield 26, 17, 0), (17, .getfield 88, 20, 0), (20, .invokevirtual 91, 23, 0), (23, .aload_n 0, 24, 0), (24, .getfield 30, 27, 0), (27, .getfield 140, 30, 0), (30, .bipush 40, 32, 0), (32, .if_icmp .lt 16, 35, 48), (35, .aload_n 0, 36, 0), (36, .bipush (-7), 38, 0), (38, .aload_n 0, 39, 0), (39, .getfield 26, 42, 0), (42, .getfield 88, 45, 0), (45, .invokevirtual 91, 48, 0), (48, .aload_n 0, 49, 0), (49, .getfield 26, 52, 0), (52, .invokevirtual 40, 55, 0), (55, .iconst 0, 56, 0), (56, .istore_n 1, 57, 0), (57, .iload_n 1, 58, 0), (58, .aload_n 0, 59, 0), (59, .getfield 12, 62, 0), (62, .getfield 116, 65, 0), (65, .if_icmp .ge 39, 68, 104), (68, .aload_n 0, 69, 0), (69, .getfield 30, 72, 0), (72, .aload_n 0, 73, 0), (73, .getfield 30, 76, 0), (76, .getfield 140, 79, 0), (79, .iload_n 1, 80, 0), (80, .aload_n 0, 81, 0), (81, .aload_n 0, 82, 0), (82, .getfield 12, 85, 0), (85, .iload_n 1, 86, 0), (86, .invokevirtual 143, 89, 0), (89, .invokestatic 147, 92, 0), (92, .invokevirtual 150, 95, 0), (95, .invokevirtual 153, 98, 0), (98, .iinc 1 1, 101, 0), (101, .goto (-44), 104, 57), (104, .aload_n 0, 105, 0), (105, .bipush 59, 107, 0), (107, .invokevirtual 51, 110, 0), (110, .aload_n 0, 111, 0), (111, .getfield 98, 114, 0), (114, .ifCond .ne 16, 117, 130), (117, .aload_n 0, 118, 0), (118, .getfield 30, 121, 0), (121, .dup, 122, 0), (122, .getfield 140, 125, 0), (125, .iconst 1, 126, 0), (126, .iadd, 127, 0), (127, .putfield 140, 130, 0), (130, .return_, 131, 0)]
def mX6_readRow : XMI := (RX6, yX6_readRow, cX6_readRow, 2, (none), [], kX6_readRow)
theorem okX6_readRow : x_ok mX6_readRow := ⟨by decide +kernel, rfl, by decide⟩
def kX6_readPrepare : XK := [(0, .aload_n 0, 1, 0), (1, .getfield 12, 4, 0), (4, .getfield 157, 7, 0), (7, .invokevirtual 161, 10, 0), (10, .bipush 6, 12, 0), (12, .if_icmp .lt 16, 15, 28), (15, .aload_n 0, 16, 0), (16, .bipush (-7), 18, 0), (18, .aload_n 0, 19, 0), (19, .getfield 26, 22, 0), (22, .getfield 88, 25, 0), (25, .invokevirtual 91, 28, 0), (28, .aload_n 0, 29, 0), (29, .getfield 26, 32, 0), (32, .invokevirtual 40, 35, 0), (35, .aload_n 0, 36, 0), (36, .getfield 26, 39, 0), (39, .getfield 88, 42, 0), (42, .istore_n 1, 43, 0), (43, .aload_n 0, 44, 0), (44, .invokevirtual 108, 47, 0), (47, .lstore_n 2, 48, 0), (48, .aload_n 0, 49, 0), (49, .getfield 12, 52, 0), (52, .lload_n 2, 53, 0), (53, .invokevirtual 166, 56, 0), (56, .ifCond .lt 10, 59, 66), (59, .aload_n 0, 60, 0), (60, .bipush (-5), 62, 0), (62, .iload_n 1, 63, 0), (63, .invokevirtual 91, 66, 0), (66, .iconst 4, 67, 0), (67, .newarray .int, 69, 0), (69, .dup, 70, 0), (70, .iconst 0, 71, 0), (71, .iconst (-1), 72, 0), (72, .iastore, 73, 0), (73, .dup, 74, 0), (74, .iconst 1, 75, 0), (75, .iconst (-1), 76, 0), (76, .iastore, 77, 0), (77, .dup, 78, 0), (78, .iconst 2, 79, 0), (79, .iconst (-1), 80, 0), (80, .iastore, 81, 0), (81, .dup, 82, 0), (82, .iconst 3, 83, 0), (83, .iconst (-1), 84, 0), (84, .iastore, 85, 0), (85, .astore 4, 87, 0), (87, .aload_n 0, 88, 0), (88, .aload 4, 90, 0), (90, .putfield 18, 93, 0), (93, .new 169, 96, 0), (96, .dup, 97, 0), (97, .lload_n 2, 98, 0), (98, .aload_n 0, 99, 0), (99, .iconst 0, 100, 0), (100, .invokevirtual 171, 103, 0), (103, .aload 4, 105, 0), (105, .invokespecial 175, 108, 0), (108, .astore 5, 110, 0), (110, .aload_n 0, 111, 0), (111, .bipush 59, 113, 0), (113, .invokevirtual 51, 116, 0), (116, .aload 5, 118, 0), (118, .getfield 178, 121, 0), (121, .aload 5, 123, 0), (123, .getfield 182, 126, 0), (126, .invokevirtual 185, 129, 0), (129, .aload_n 0, 130, 0), (130, .getfield 12, 133, 0), (133, .getfield 157, 136, 0), (136, .aload 5, 138, 0), (138, .invokevirtual 191, 141, 0), (141, .pop, 142, 0), (142, .return_, 143, 0)]
def mX6_readPrepare : XMI := (RX6, yX6_readPrepare, cX6_readPrepare, 6, (none), [], kX6_readPrepare)
theorem okX6_readPrepare : x_ok mX6_readPrepare := ⟨by decide +kernel, rfl, by decide⟩
def kX6_readCost : XK := [(0, .aload_n 0, 1, 0), (1, .getfield 26, 4, 0), (4, .ldc 195, 6, 0), (6, .invokevirtual 57, 9, 0), (9, .ifCond .eq 55, 12, 64), (12, .aload_n 0, 13, 0), (13, .getfield 26, 16, 0), (16, .invokevirtual 40, 19, 0), (19, .aload_n 0, 20, 0), (20, .getfield 12, 23, 0), (23, .aload_n 0, 24, 0), (24, .bipush 99, 26, 0), (26, .invokevirtual 150, 29, 0), (29, .putfield 197, 32, 0), (32, .aload_n 0, 33, 0), (33, .getfield 12, 36, 0), (36, .aload_n 0, 37, 0), (37, .bipush 99, 39, 0), (39, .invokevirtual 150, 42, 0), (42, .putfield 200, 45, 0), (45, .aload_n 0, 46, 0), (46, .getfield 12, 49, 0), (49, .aload_n 0, 50, 0), (50, .bipush 99, 52, 0), (52, .invokevirtual 150, 55, 0), (55, .putfield 203, 58, 0), (58, .aload_n 0, 59, 0), (59, .bipush 59, 61, 0), (61, .invokevirtual 51, 64, 0), (64, .return_, 65, 0)]
def mX6_readCost : XMI := (RX6, yX6_readCost, cX6_readCost, 1, (none), [], kX6_readCost)
theorem okX6_readCost : x_ok mX6_readCost := ⟨by decide +kernel, rfl, by decide⟩
def kX6_readTries : XK := [(0, .aload_n 0, 1, 0), (1, .getfield 26, 4, 0), (4, .ldc 206, 6, 0), (6, .invokevirtual 57, 9, 0), (9, .ifCond .eq 29, 12, 38), (12, .aload_n 0, 13, 0), (13, .getfield 26, 16, 0), (16, .invokevirtual 40, 19, 0), (19, .aload_n 0, 20, 0), (20, .getfield 12, 23, 0), (23, .aload_n 0, 24, 0), (24, .bipush 99, 26, 0), (26, .invokevirtual 150, 29, 0), (29, .putfield 208, 32, 0), (32, .aload_n 0, 33, 0), (33, .bipush 59, 35, 0), (35, .invokevirtual 51, 38, 0), (38, .return_, 39, 0)]
def mX6_readTries : XMI := (RX6, yX6_readTries, cX6_readTries, 1, (none), [], kX6_readTries)
theorem okX6_readTries : x_ok mX6_readTries := ⟨by decide +kernel, rfl, by decide⟩
def kX6_readCondition : XK := [(0, .new 210, 3, 0), (3, .dup, 4, 0), (4, .iconst 1, 5, 0), (5, .invokespecial 212, 8, 0), (8, .astore_n 2, 9, 0), (9, .new 210, 12, 0), (12, .dup, 13, 0), (13, .iconst 0, 14, 0), (14, .invokespecial 212, 17, 0), (17, .astore_n 3, 18, 0), (18, .aload_n 2, 19, 0), (19, .getfield 215, 22, 0), (22, .aload_n 3, 23, 0), (23, .invokevirtual 191, 26, 0), (26, .pop, 27, 0), (27, .aload_n 3, 28, 0), (28, .getfield 215, 31, 0), (31, .aload_n 0, 32, 0), (32, .iload_n 1, 33, 0), (33, .invokevirtual 218, 36, 0), (36, .invokevirtual 191, 39, 0), (39, .pop, 40, 0), (40, .iconst 0, 41, 0), (41, .istore 4, 43, 0), (43, .iload 4, 45, 0), (45, .sipush 800, 48, 0), (48, .if_icmp .ge 86, 51, 134), (51, .aload_n 0, 52, 0), (52, .getfield 26, 55, 0), (55, .getfield 85, 58, 0), (58, .sipush 258, 61, 0), (61, .if_icmp .eq 16, 64, 77), (64, .aload_n 0, 65, 0), (65, .getfield 26, 68, 0), (68, .getfield 85, 71, 0), (71, .sipush 259, 74, 0), (74, .if_icmp .ne 60, 77, 134), (77, .aload_n 0, 78, 0), (78, .getfield 26, 81, 0), (81, .getfield 85, 84, 0), (84, .sipush 259, 87, 0), (87, .if_icmp .ne 21, 90, 108), (90, .new 210, 93, 0), (93, .dup, 94, 0), (94, .iconst 0, 95, 0), (95, .invokespecial 212, 98, 0), (98, .astore_n 3, 99, 0), (99, .aload_n 2, 100, 0), (100, .getfield 215, 103, 0), (103, .aload_n 3, 104, 0), (104, .invokevirtual 191, 107, 0), (107, .pop, 108, 0), (108, .aload_n 0, 109, 0), (109, .getfield 26, 112, 0), (112, .invokevirtual 40, 115, 0), (115, .aload_n 3, 116, 0), (116, .getfield 215, 119, 0), (119, .aload_n 0, 120, 0), (120, .iload_n 1, 121, 0), (121, .invokevirtual 218, 124, 0), (124, .invokevirtual 191, 127, 0), (127, .pop, 128, 0), (128, .iinc 4 1, 131, 0), (131, .goto (-88), 134, 43), (134, .aload_n 2, 135, 0), (135, .areturn, 136, 0)]
def mX6_readCondition : XMI := (RX6, yX6_readCondition, cX6_readCondition, 5, (some (FieldType.object "PreparedPlans$Condition")), [], kX6_readCondition)
theorem okX6_readCondition : x_ok mX6_readCondition := ⟨by decide +kernel, rfl, by decide⟩
def kX6_readFactor : XK := [(0, .aload_n 0, 1, 0), (1, .getfield 26, 4, 0), (4, .getfield 85, 7, 0), (7, .sipush 260, 10, 0), (10, .if_icmp .eq 15, 13, 25), (13, .aload_n 0, 14, 0), (14, .getfield 26, 17, 0), (17, .getfield 85, 20, 0), (20, .bipush 40, 22, 0), (22, .if_icmp .ne 9, 25, 31), (25, .aload_n 0, 26, 0), (26, .iload_n 1, 27, 0), (27, .invokevirtual 221, 30, 0), (30, .areturn, 31, 0), (31, .aload_n 0, 32, 0), (32, .invokevirtual 133, 35, 0), (35, .istore_n 2, 36, 0), (36, .aload_n 0, 37, 0), (37, .getfield 12, 40, 0), (40, .iload_n 2, 41, 0), (41, .invokevirtual 143, 44, 0), (44, .istore_n 3, 45, 0), (45, .aload_n 0, 46, 0), (46, .invokevirtual 224, 49, 0), (49, .istore 4, 51, 0), (51, .aload_n 0, 52, 0), (52, .getfield 26, 55, 0), (55, .getfield 85, 58, 0), (58, .sipush 262, 61, 0), (61, .if_icmp .ne 23, 64, 84), (64, .new 228, 67, 0), (67, .dup, 68, 0), (68, .iload_n 2, 69, 0), (69, .iload 4, 71, 0), (71, .iconst 0, 72, 0), (72, .aload_n 0, 73, 0), (73, .iload_n 3, 74, 0), (74, .invokestatic 147, 77, 0), (77, .invokevirtual 150, 80, 0), (80, .invokespecial 230, 83, 0), (83, .areturn, 84, 0), (84, .aload_n 0, 85, 0), (85, .getfield 26, 88, 0), (88, .getfield 85, 91, 0), (91, .bipush 63, 93, 0), (93, .if_icmp .ne 20, 96, 113), (96, .new 228, 99, 0), (99, .dup, 100, 0), (100, .iload_n 2, 101, 0), (101, .iload 4, 103, 0), (103, .iconst 2, 104, 0), (104, .aload_n 0, 105, 0), (105, .iload_n 3, 106, 0), (106, .invokevirtual 233, 109, 0), (109, .invokespecial 230, 112, 0), (112, .areturn, 113, 0), (113, .aload_n 0, 114, 0), (114, .getfield 26, 117, 0), (117, .getfield 88, 120, 0), (120, .istore 5, 122, 0), (122, .aload_n 0, 123, 0), (123, .invokevirtual 133, 126, 0), (126, .istore 6, 128, 0), (128, .aload_n 0, 129, 0), (129, .getfield 12, 132, 0), (132, .iload 6, 134, 0), (134, .invokevirtual 143, 137, 0), (137, .iload_n 3, 138, 0), (138, .if_icmp .eq 11, 141, 149), (141, .aload_n 0, 142, 0), (142, .bipush (-6), 144, 0), (144, .iload 5, 146, 0), (146, .invokevirtual 91, 149, 0), (149, .new 228, 152, 0), (152, .dup, 153, 0), (153, .iload_n 2, 154, 0), (154, .iload 4, 156, 0), (156, .iconst 1, 157, 0), (157, .iload 6, 159, 0), (159, .invokespecial 230, 162, 0), (162, .areturn, 163, 0)]
def mX6_readFactor : XMI := (RX6, yX6_readFactor, cX6_readFactor, 7, (some (FieldType.object "PreparedPlans$Condition")), [], kX6_readFactor)
theorem okX6_readFactor : x_ok mX6_readFactor := ⟨by decide +kernel, rfl, by decide⟩
def kX6_readNested : XK := [(0, .new 210, 3, 0), (3, .dup, 4, 0), (4, .iconst 2, 5, 0), (5, .invokespecial 212, 8, 0), (8, .astore_n 2, 9, 0), (9, .iload_n 1, 10, 0), (10, .bipush 6, 12, 0), (12, .if_icmp .lt 18, 15, 30), (15, .aload_n 0, 16, 0), (16, .bipush (-8), 18, 0), (18, .aload_n 0, 19, 0), (19, .getfield 26, 22, 0), (22, .getfield 88, 25, 0), (25, .invokevirtual 91, 28, 0), (28, .aload_n 2, 29, 0), (29, .areturn, 30, 0), (30, .aload_n 0, 31, 0), (31, .getfield 26, 34, 0), (34, .getfield 85, 37, 0), (37, .sipush 260, 40, 0), (40, .if_icmp .ne 7, 43, 47), (43, .iconst 1, 44, 0), (44, .goto 4, 47, 48), (47, .iconst 0, 48, 0), (48, .istore_n 3, 49, 0), (49, .aload_n 0, 50, 0), (50, .getfield 26, 53, 0), (53, .invokevirtual 40, 56, 0), (56, .iload_n 3, 57, 0), (57, .ifCond .eq 20, 60, 77), (60, .aload_n 2, 61, 0), (61, .getfield 215, 64, 0), (64, .aload_n 0, 65, 0), (65, .iload_n 1, 66, 0), (66, .iconst 1, 67, 0), (67, .iadd, 68, 0), (68, .invokevirtual 218, 71, 0), (71, .invokevirtual 191, 74, 0), (74, .pop, 75, 0), (75, .aload_n 2, 76, 0), (76, .areturn, 77, 0), (77, .aload_n 0, 78, 0), (78, .iload_n 1, 79, 0), (79, .iconst 1, 80, 0), (80, .iadd, 81, 0), (81, .invokevirtual 171, 84, 0), (84, .astore 4, 86, 0), (86, .aload_n 0, 87, 0), (87, .bipush 41, 89, 0), (89, .invokevirtual 51, 92, 0), (92, .aload 4, 94, 0), (94, .areturn, 95, 0)]
def mX6_readNested : XMI := (RX6, yX6_readNested, cX6_readNested, 5, (some (FieldType.object "PreparedPlans$Condition")), [], kX6_readNested)
theorem okX6_readNested : x_ok mX6_readNested := ⟨by decide +kernel, rfl, by decide⟩
def kX6_takeSign : XK := [(0, .bipush 61, 2, 0), (2, .istore_n 1, 3, 0), (3, .aload_n 0, 4, 0), (4, .getfield 26, 7, 0), (7, .getfield 85, 10, 0), (10, .bipush 60, 12, 0), (12, .if_icmp .eq 15, 15, 27), (15, .aload_n 0, 16, 0), (16, .getfield 26, 19, 0), (19, .getfield 85, 22, 0), (22, .bipush 62, 24, 0), (24, .if_icmp .ne 12, 27, 36), (27, .aload_n 0, 28, 0), (28, .getfield 26, 31, 0), (31, .getfield 85, 34, 0), (34, .i2c, 35, 0), (35, .istore_n 1, 36, 0), (36, .aload_n 0, 37, 0), (37, .iload_n 1, 38, 0), (38, .invokevirtual 51, 41, 0), (41, .iload_n 1, 42, 0), (42, .ireturn, 43, 0)]
def mX6_takeSign : XMI := (RX6, yX6_takeSign, cX6_takeSign, 2, (some FieldType.char), [], kX6_takeSign)
theorem okX6_takeSign : x_ok mX6_takeSign := ⟨by decide +kernel, rfl, by decide⟩
def kX6_takeHole : XK := [(0, .aload_n 0, 1, 0), (1, .getfield 26, 4, 0), (4, .getfield 88, 7, 0), (7, .istore_n 2, 8, 0), (8, .aload_n 0, 9, 0), (9, .getfield 26, 12, 0), (12, .invokevirtual 40, 15, 0), (15, .aload_n 0, 16, 0), (16, .iconst 3, 17, 0), (17, .invokevirtual 150, 20, 0), (20, .istore_n 3, 21, 0), (21, .iload_n 3, 22, 0), (22, .ifCond .lt 46, 25, 68), (25, .iload_n 3, 26, 0), (26, .aload_n 0, 27, 0), (27, .getfield 18, 30, 0), (30, .arraylength, 31, 0), (31, .if_icmp .ge 37, 34, 68), (34, .aload_n 0, 35, 0), (35, .getfield 18, 38, 0), (38, .iload_n 3, 39, 0), (39, .iaload, 40, 0), (40, .iconst (-1), 41, 0), (41, .if_icmp .eq 20, 44, 61), (44, .aload_n 0, 45, 0), (45, .getfield 18, 48, 0), (48, .iload_n 3, 49, 0), (49, .iaload, 50, 0), (50, .iload_n 1, 51, 0), (51, .if_icmp .eq 10, 54, 61), (54, .aload_n 0, 55, 0), (55, .bipush (-6), 57, 0), (57, .iload_n 2, 58, 0), (58, .invokevirtual 91, 61, 0), (61, .aload_n 0, 62, 0), (62, .getfield 18, 65, 0), (65, .iload_n 3, 66, 0), (66, .iload_n 1, 67, 0), (67, .iastore, 68, 0), (68, .iload_n 3, 69, 0), (69, .ireturn, 70, 0)]
def mX6_takeHole : XMI := (RX6, yX6_takeHole, cX6_takeHole, 4, (some FieldType.int), [], kX6_takeHole)
theorem okX6_takeHole : x_ok mX6_takeHole := ⟨by decide +kernel, rfl, by decide⟩
def kX7_init : XK := [(0, .aload_n 0, 1, 0), (1, .invokespecial 3, 4, 0), (4, .aload_n 0, 5, 0), (5, .iconst 5, 6, 0), (6, .newarray .int, 8, 0), (8, .putfield 9, 11, 0), (11, .aload_n 0, 12, 0), (12, .iconst 5, 13, 0), (13, .newarray .int, 15, 0), (15, .putfield 15, 18, 0), (18, .aload_n 0, 19, 0), (19, .iconst 5, 20, 0), (20, .newarray .int, 22, 0), (22, .putfield 18, 25, 0), (25, .return_, 26, 0)]
def mX7_init : XMI := (RX7, yX7_init, cX7_init, 1, (none), [], kX7_init)
theorem okX7_init : x_ok mX7_init := ⟨by decide +kernel, rfl, by decide⟩
def kX7_copyFrom : XK := [(0, .aload_n 0, 1, 0), (1, .aload_n 1, 2, 0), (2, .getfield 21, 5, 0), (5, .putfield 21, 8, 0), (8, .aload_n 1, 9, 0), (9, .getfield 9, 12, 0), (12, .iconst 0, 13, 0), (13, .aload_n 0, 14, 0), (14, .getfield 9, 17, 0), (17, .iconst 0, 18, 0), (18, .iconst 5, 19, 0), (19, .invokestatic 25, 22, 0), (22, .aload_n 1, 23, 0), (23, .getfield 15, 26, 0), (26, .iconst 0, 27, 0), (27, .aload_n 0, 28, 0), (28, .getfield 15, 31, 0), (31, .iconst 0, 32, 0), (32, .iconst 5, 33, 0), (33, .invokestatic 25, 36, 0), (36, .aload_n 1, 37, 0), (37, .getfield 18, 40, 0), (40, .iconst 0, 41, 0), (41, .aload_n 0, 42, 0), (42, .getfield 18, 45, 0), (45, .iconst 0, 46, 0), (46, .iconst 5, 47, 0), (47, .invokestatic 25, 50, 0), (50, .return_, 51, 0)]
def mX7_copyFrom : XMI := (RX7, yX7_copyFrom, cX7_copyFrom, 2, (none), [], kX7_copyFrom)
theorem okX7_copyFrom : x_ok mX7_copyFrom := ⟨by decide +kernel, rfl, by decide⟩
def kX7_estimate : XK := [(0, .aload_n 1, 1, 0), (1, .getfield 31, 4, 0), (4, .istore_n 3, 5, 0), (5, .aload_n 0, 6, 0), (6, .getfield 21, 9, 0), (9, .ifCond .le 12, 12, 21), (12, .iload_n 3, 13, 0), (13, .ifCond .lt 8, 16, 21), (16, .iload_n 3, 17, 0), (17, .iconst 5, 18, 0), (18, .if_icmp .lt 5, 21, 23), (21, .iconst 0, 22, 0), (22, .ireturn, 23, 0), (23, .aload_n 1, 24, 0), (24, .aload_n 2, 25, 0), (25, .invokevirtual 36, 28, 0), (28, .istore 4, 30, 0), (30, .aload_n 1, 31, 0), (31, .getfield 40, 34, 0), (34, .bipush 61, 36, 0), (36, .if_icmp .ne 11, 39, 47), (39, .aload_n 0, 40, 0), (40, .iload_n 3, 41, 0), (41, .iload 4, 43, 0), (43, .invokevirtual 44, 46, 0), (46, .ireturn, 47, 0), (47, .iload 4, 49, 0), (49, .iconst (-1), 50, 0), (50, .if_icmp .ne 12, 53, 62), (53, .aload_n 0, 54, 0), (54, .getfield 21, 57, 0), (57, .iconst 2, 58, 0), (58, .iadd, 59, 0), (59, .iconst 3, 60, 0), (60, .idiv, 61, 0), (61, .ireturn, 62, 0), (62, .aload_n 0, 63, 0), (63, .getfield 18, 66, 0), (66, .iload_n 3, 67, 0), (67, .iaload, 68, 0), (68, .aload_n 0, 69, 0), (69, .getfield 15, 72, 0), (72, .iload_n 3, 73, 0), (73, .iaload, 74, 0), (74, .isub, 75, 0), (75, .iconst 1, 76, 0), (76, .iadd, 77, 0), (77, .istore 5, 79, 0), (79, .iload 5, 81, 0), (81, .ifCond .gt 5, 84, 86), (84, .iconst 0, 85, 0), (85, .ireturn, 86, 0), (86, .aload_n 1, 87, 0), (87, .getfield 40, 90, 0), (90, .bipush 60, 92, 0), (92, .if_icmp .ne 15, 95, 107), (95, .iload 4, 97, 0), (97, .aload_n 0, 98, 0), (98, .getfield 15, 101, 0), (101, .iload_n 3, 102, 0), (102, .iaload, 103, 0), (103, .isub, 104, 0), (104, .goto 12, 107, 116), (107, .aload_n 0, 108, 0), (108, .getfield 18, 111, 0), (111, .iload_n 3, 112, 0), (112, .iaload, 113, 0), (113, .iload 4, 115, 0), (115, .isub, 116, 0), (116, .istore 6, 118, 0), (118, .iconst 0, 119, 0), (119, .aload_n 0, 120, 0), (120, .getfield 21, 123, 0), (123, .iload 6, 125, 0), (125, .imul, 126, 0), (126, .iload 5, 128, 0), (128, .idiv, 129, 0), (129, .aload_n 0, 130, 0), (130, .getfield 21, 133, 0), (133, .invokestatic 48, 136, 0), (136, .invokestatic 53, 139, 0), (139, .ireturn, 140, 0)]
def mX7_estimate : XMI := (RX7, yX7_estimate, cX7_estimate, 7, (some FieldType.int), [], kX7_estimate)
theorem okX7_estimate : x_ok mX7_estimate := ⟨by decide +kernel, rfl, by decide⟩
def kX7_estimateEqual : XK := [(0, .iload_n 2, 1, 0), (1, .iconst (-1), 2, 0), (2, .if_icmp .eq 27, 5, 29), (5, .iload_n 2, 6, 0), (6, .aload_n 0, 7, 0), (7, .getfield 15, 10, 0), (10, .iload_n 1, 11, 0), (11, .iaload, 12, 0), (12, .if_icmp .lt 13, 15, 25), (15, .iload_n 2, 16, 0), (16, .aload_n 0, 17, 0), (17, .getfield 18, 20, 0), (20, .iload_n 1, 21, 0), (21, .iaload, 22, 0), (22, .if_icmp .le 7, 25, 29), (25, .iconst 1, 26, 0), (26, .goto 4, 29, 30), (29, .iconst 0, 30, 0), (30, .istore_n 3, 31, 0), (31, .iload_n 3, 32, 0), (32, .ifCond .ne 12, 35, 44), (35, .aload_n 0, 36, 0), (36, .getfield 9, 39, 0), (39, .iload_n 1, 40, 0), (40, .iaload, 41, 0), (41, .ifCond .gt 5, 44, 46), (44, .iconst 0, 45, 0), (45, .ireturn, 46, 0), (46, .aload_n 0, 47, 0), (47, .getfield 21, 50, 0), (50, .aload_n 0, 51, 0), (51, .getfield 9, 54, 0), (54, .iload_n 1, 55, 0), (55, .iaload, 56, 0), (56, .iadd, 57, 0), (57, .iconst 1, 58, 0), (58, .isub, 59, 0), (59, .aload_n 0, 60, 0), (60, .getfield 9, 63, 0), (63, .iload_n 1, 64, 0), (64, .iaload, 65, 0), (65, .idiv, 66, 0), (66, .ireturn, 67, 0)]
def mX7_estimateEqual : XMI := (RX7, yX7_estimateEqual, cX7_estimateEqual, 4, (some FieldType.int), [], kX7_estimateEqual)
theorem okX7_estimateEqual : x_ok mX7_estimateEqual := ⟨by decide +kernel, rfl, by decide⟩
def kX8_init : XK := [(0, .aload_n 0, 1, 0), (1, .invokespecial 3, 4, 0), (4, .aload_n 0, 5, 0), (5, .sipush 801, 8, 0), (8, .newarray .int, 10, 0), (10, .putfield 9, 13, 0), (13, .aload_n 0, 14, 0), (14, .sipush 801, 17, 0), (17, .newarray .int, 19, 0), (19, .putfield 15, 22, 0), (22, .aload_n 0, 23, 0), (23, .sipush 801, 26, 0), (26, .newarray .long, 28, 0), (28, .putfield 18, 31, 0), (31, .aload_n 0, 32, 0), (32, .sipush 256, 35, 0), (35, .putfield 22, 38, 0), (38, .return_, 39, 0)]
def mX8_init : XMI := (RX8, yX8_init, cX8_init, 1, (none), [], kX8_init)
theorem okX8_init : x_ok mX8_init := ⟨by decide +kernel, rfl, by decide⟩
def kX8_split : XK := [(0, .aload_n 0, 1, 0), (1, .iconst 0, 2, 0), (2, .putfield 26, 5, 0), (5, .aload_n 0, 6, 0), (6, .iconst 0, 7, 0), (7, .putfield 29, 10, 0), (10, .iconst 0, 11, 0), (11, .istore_n 3, 12, 0), (12, .iconst 0, 13, 0), (13, .istore 4, 15, 0), (15, .iload 4, 17, 0), (17, .sipush 800, 20, 0), (20, .if_icmp .ge 90, 23, 110), (23, .iload_n 3, 24, 0), (24, .iload_n 2, 25, 0), (25, .if_icmp .ge 85, 28, 110), (28, .iload_n 3, 29, 0), (29, .aload_n 1, 30, 0), (30, .arraylength, 31, 0), (31, .if_icmp .ge 79, 34, 110), (34, .aload_n 1, 35, 0), (35, .iload_n 3, 36, 0), (36, .baload, 37, 0), (37, .bipush 32, 39, 0), (39, .if_icmp .ne 9, 42, 48), (42, .iinc 3 1, 45, 0), (45, .goto 59, 48, 104), (48, .aload_n 1, 49, 0), (49, .iload_n 3, 50, 0), (50, .baload, 51, 0), (51, .invokestatic 32, 54, 0), (54, .ifCond .eq 14, 57, 68), (57, .aload_n 0, 58, 0), (58, .aload_n 1, 59, 0), (59, .iload_n 3, 60, 0), (60, .iload_n 2, 61, 0), (61, .invokevirtual 36, 64, 0), (64, .istore_n 3, 65, 0), (65, .goto 39, 68, 104), (68, .aload_n 1, 69, 0), (69, .iload_n 3, 70, 0), (70, .baload, 71, 0), (71, .invokestatic 40, 74, 0), (74, .ifCond .eq 14, 77, 88), (77, .aload_n 0, 78, 0), (78, .aload_n 1, 79, 0), (79, .iload_n 3, 80, 0), (80, .iload_n 2, 81, 0), (81, .invokevirtual 43, 84, 0), (84, .istore_n 3, 85, 0), (85, .goto 19, 88, 104), (88, .aload_n 0, 89, 0), (89, .aload_n 1, 90, 0), (90, .iload_n 3, 91, 0), (91, .baload, 92, 0), (92, .sipush 255, 95, 0), (95, .iand, 96, 0), (96, .iload_n 3, 97, 0), (97, .lconst 0, 98, 0), (98, .invokevirtual 46, 101, 0), (101, .iinc 3 1, 104, 0), (104, .iinc 4 1, 107, 0), (107, .goto (-92), 110, 15), (110, .aload_n 0, 111, 0), (111, .sipush 256, 114, 0), (114, .iload_n 2, 115, 0), (115, .lconst 0, 116, 0), (116, .invokevirtual 46, 119, 0), (119, .return_, 120, 0)]
def mX8_split : XMI := (RX8, yX8_split, cX8_split, 5, (none), [], kX8_split)
theorem okX8_split : x_ok mX8_split := ⟨by decide +kernel, rfl, by decide⟩
def kX8_add : XK := [(0, .aload_n 0, 1, 0), (1, .getfield 26, 4, 0), (4, .sipush 800, 7, 0), (7, .if_icmp .gt 43, 10, 50), (10, .aload_n 0, 11, 0), (11, .getfield 9, 14, 0), (14, .aload_n 0, 15, 0), (15, .getfield 26, 18, 0), (18, .iload_n 1, 19, 0), (19, .iastore, 20, 0), (20, .aload_n 0, 21, 0), (21, .getfield 15, 24, 0), (24, .aload_n 0, 25, 0), (25, .getfield 26, 28, 0), (28, .iload_n 2, 29, 0), (29, .iastore, 30, 0), (30, .aload_n 0, 31, 0), (31, .getfield 18, 34, 0), (34, .aload_n 0, 35, 0), (35, .getfield 26, 38, 0), (38, .lload_n 3, 39, 0), (39, .lastore, 40, 0), (40, .aload_n 0, 41, 0), (41, .dup, 42, 0), (42, .getfield 26, 45, 0), (45, .iconst 1, 46, 0), (46, .iadd, 47, 0), (47, .putfield 26, 50, 0), (50, .return_, 51, 0)]
def mX8_add : XMI := (RX8, yX8_add, cX8_add, 5, (none), [], kX8_add)
theorem okX8_add : x_ok mX8_add := ⟨by decide +kernel, rfl, by decide⟩
def kX8_addWord : XK := [(0, .iload_n 2, 1, 0), (1, .istore 4, 3, 0), (3, .iload 4, 5, 0), (5, .iload_n 3, 6, 0), (6, .if_icmp .ge 26, 9, 32), (9, .iload 4, 11, 0), (11, .aload_n 1, 12, 0), (12, .arraylength, 13, 0), (13, .if_icmp .ge 19, 16, 32), (16, .aload_n 1, 17, 0), (17, .iload 4, 19, 0), (19, .baload, 20, 0), (20, .invokestatic 32, 23, 0), (23, .ifCond .eq 9, 26, 32), (26, .iinc 4 1, 29, 0), (29, .goto (-26), 32, 3), (32, .aload_n 1, 33, 0), (33, .iload_n 2, 34, 0), (34, .iload 4, 36, 0), (36, .invokestatic 50, 39, 0), (39, .lstore 5, 41, 0), (41, .aload_n 0, 42, 0), (42, .lload 5, 44, 0), (44, .invokestatic 54, 47, 0), (47, .iload_n 2, 48, 0), (48, .lload 5, 50, 0), (50, .invokevirtual 46, 53, 0), (53, .iload 4, 55, 0), (55, .ireturn, 56, 0)]
def mX8_addWord : XMI := (RX8, yX8_addWord, cX8_addWord, 7, (some FieldType.int), [], kX8_addWord)
theorem okX8_addWord : x_ok mX8_addWord := ⟨by decide +kernel, rfl, by decide⟩
def kX8_kindOf : XK := [(0, .lload_n 0, 1, 0), (1, .lconst 0, 2, 0), (2, .lcmp, 3, 0), (3, .ifCond .ne 7, 6, 10), (6, .sipush 261, 9, 0), (9, .ireturn, 10, 0), (10, .lload_n 0, 11, 0), (11, .ldc 58, 13, 0), (13, .invokestatic 60, 16, 0), (16, .lcmp, 17, 0), (17, .ifCond .ne 7, 20, 24), (20, .sipush 258, 23, 0), (23, .ireturn, 24, 0), (24, .lload_n 0, 25, 0), (25, .ldc 64, 27, 0), (27, .invokestatic 60, 30, 0), (30, .lcmp, 31, 0), (31, .ifCond .ne 7, 34, 38), (34, .sipush 259, 37, 0), (37, .ireturn, 38, 0), (38, .lload_n 0, 39, 0), (39, .ldc 66, 41, 0), (41, .invokestatic 60, 44, 0), (44, .lcmp, 45, 0), (45, .ifCond .ne 9, 48, 54), (48, .sipush 260, 51, 0), (51, .goto 6, 54, 57), (54, .sipush 257, 57, 0), (57, .ireturn, 58, 0)]
def mX8_kindOf : XMI := (RX8, yX8_kindOf, cX8_kindOf, 2, (some FieldType.int), [], kX8_kindOf)
theorem okX8_kindOf : x_ok mX8_kindOf := ⟨by decide +kernel, rfl, by decide⟩
def kX8_addNumber : XK := [(0, .iload_n 2, 1, 0), (1, .istore 4, 3, 0), (3, .iconst 0, 4, 0), (4, .istore 5, 6, 0), (6, .iload 4, 8, 0), (8, .iload_n 3, 9, 0), (9, .if_icmp .ge 47, 12, 56), (12, .iload 4, 14, 0), (14, .aload_n 1, 15, 0), (15, .arraylength, 16, 0), (16, .if_icmp .ge 40, 19, 56), (19, .aload_n 1, 20, 0), (20, .iload 4, 22, 0), (22, .baload, 23, 0), (23, .invokestatic 40, 26, 0), (26, .ifCond .eq 30, 29, 56), (29, .bipush 10, 31, 0), (31, .iload 5, 33, 0), (33, .imul, 34, 0), (34, .aload_n 1, 35, 0), (35, .iload 4, 37, 0), (37, .baload, 38, 0), (38, .iadd, 39, 0), (39, .bipush 48, 41, 0), (41, .isub, 42, 0), (42, .sipush 10000, 45, 0), (45, .invokestatic 68, 48, 0), (48, .istore 5, 50, 0), (50, .iinc 4 1, 53, 0), (53, .goto (-47), 56, 6), (56, .aload_n 0, 57, 0), (57, .sipush 262, 60, 0), (60, .iload_n 2, 61, 0), (61, .iload 5, 63, 0), (63, .i2l, 64, 0), (64, .invokevirtual 46, 67, 0), (67, .iload 4, 69, 0), (69, .ireturn, 70, 0)]
def mX8_addNumber : XMI := (RX8, yX8_addNumber, cX8_addNumber, 6, (some FieldType.int), [], kX8_addNumber)
theorem okX8_addNumber : x_ok mX8_addNumber := ⟨by decide +kernel, rfl, by decide⟩
def kX8_advance : XK := [(0, .aload_n 0, 1, 0), (1, .getfield 29, 4, 0), (4, .ifCond .lt 66, 7, 70), (7, .aload_n 0, 8, 0), (8, .getfield 29, 11, 0), (11, .aload_n 0, 12, 0), (12, .getfield 26, 15, 0), (15, .if_icmp .ge 55, 18, 70), (18, .aload_n 0, 19, 0), (19, .aload_n 0, 20, 0), (20, .getfield 9, 23, 0), (23, .aload_n 0, 24, 0), (24, .getfield 29, 27, 0), (27, .iaload, 28, 0), (28, .putfield 22, 31, 0), (31, .aload_n 0, 32, 0), (32, .aload_n 0, 33, 0), (33, .getfield 15, 36, 0), (36, .aload_n 0, 37, 0), (37, .getfield 29, 40, 0), (40, .iaload, 41, 0), (41, .putfield 74, 44, 0), (44, .aload_n 0, 45, 0), (45, .aload_n 0, 46, 0), (46, .getfield 18, 49, 0), (49, .aload_n 0, 50, 0), (50, .getfield 29, 53, 0), (53, .laload, 54, 0), (54, .putfield 77, 57, 0), (57, .aload_n 0, 58, 0), (58, .dup, 59, 0), (59, .getfield 29, 62, 0), (62, .iconst 1, 63, 0), (63, .iadd, 64, 0), (64, .putfield 29, 67, 0), (67, .goto 10, 70, 77), (70, .aload_n 0, 71, 0), (71, .sipush 256, 74, 0), (74, .putfield 22, 77, 0), (77, .return_, 78, 0)]
def mX8_advance : XMI := (RX8, yX8_advance, cX8_advance, 1, (none), [], kX8_advance)
theorem okX8_advance : x_ok mX8_advance := ⟨by decide +kernel, rfl, by decide⟩
def kX8_isWord : XK := [(0, .aload_n 0, 1, 0), (1, .getfield 22, 4, 0), (4, .sipush 257, 7, 0), (7, .if_icmp .ne 19, 10, 26), (10, .aload_n 0, 11, 0), (11, .getfield 77, 14, 0), (14, .aload_n 1, 15, 0), (15, .invokestatic 60, 18, 0), (18, .lcmp, 19, 0), (19, .ifCond .ne 7, 22, 26), (22, .iconst 1, 23, 0), (23, .goto 4, 26, 27), (26, .iconst 0, 27, 0), (27, .ireturn, 28, 0)]
def mX8_isWord : XMI := (RX8, yX8_isWord, cX8_isWord, 2, (some FieldType.boolean), [], kX8_isWord)
theorem okX8_isWord : x_ok mX8_isWord := ⟨by decide +kernel, rfl, by decide⟩
def kX9_init : XK := [(0, .aload_n 0, 1, 0), (1, .invokespecial 3, 4, 0), (4, .aload_n 0, 5, 0), (5, .bipush (-2), 7, 0), (7, .putfield 9, 10, 0), (10, .aload_n 0, 11, 0), (11, .iconst 5, 12, 0), (12, .newarray .int, 14, 0), (14, .putfield 15, 17, 0), (17, .return_, 18, 0)]
def mX9_init : XMI := (RX9, yX9_init, cX9_init, 1, (none), [], kX9_init)
theorem okX9_init : x_ok mX9_init := ⟨by decide +kernel, rfl, by decide⟩
def kX9_clear : XK := [(0, .aload_n 0, 1, 0), (1, .iconst 0, 2, 0), (2, .putfield 19, 5, 0), (5, .aload_n 0, 6, 0), (6, .iconst 0, 7, 0), (7, .putfield 22, 10, 0), (10, .aload_n 0, 11, 0), (11, .iconst 0, 12, 0), (12, .putfield 25, 15, 0), (15, .aload_n 0, 16, 0), (16, .iconst 0, 17, 0), (17, .putfield 28, 20, 0), (20, .aload_n 0, 21, 0), (21, .bipush (-2), 23, 0), (23, .putfield 9, 26, 0), (26, .aload_n 0, 27, 0), (27, .iconst 0, 28, 0), (28, .putfield 31, 31, 0), (31, .aload_n 0, 32, 0), (32, .iconst 0, 33, 0), (33, .putfield 34, 36, 0), (36, .aload_n 0, 37, 0), (37, .iconst 0, 38, 0), (38, .putfield 37, 41, 0), (41, .iconst 0, 42, 0), (42, .istore_n 1, 43, 0), (43, .iload_n 1, 44, 0), (44, .iconst 5, 45, 0), (45, .if_icmp .ge 17, 48, 62), (48, .aload_n 0, 49, 0), (49, .getfield 15, 52, 0), (52, .iload_n 1, 53, 0), (53, .bipush 100, 55, 0), (55, .iastore, 56, 0), (56, .iinc 1 1, 59, 0), (59, .goto (-16), 62, 43), (62, .return_, 63, 0)]
def mX9_clear : XMI := (RX9, yX9_clear, cX9_clear, 2, (none), [], kX9_clear)
theorem okX9_clear : x_ok mX9_clear := ⟨by decide +kernel, rfl, by decide⟩
def kX9_copyFrom : XK := [(0, .aload_n 0, 1, 0), (1, .aload_n 1, 2, 0), (2, .getfield 19, 5, 0), (5, .putfield 19, 8, 0), (8, .aload_n 0, 9, 0), (9, .aload_n 1, 10, 0), (10, .getfield 22, 13, 0), (13, .putfield 22, 16, 0), (16, .aload_n 0, 17, 0), (17, .aload_n 1, 18, 0), (18, .getfield 25, 21, 0), (21, .putfield 25, 24, 0), (24, .aload_n 0, 25, 0), (25, .aload_n 1, 26, 0), (26, .getfield 28, 29, 0), (29, .putfield 28, 32, 0), (32, .aload_n 0, 33, 0), (33, .aload_n 1, 34, 0), (34, .getfield 9, 37, 0), (37, .putfield 9, 40, 0), (40, .aload_n 0, 41, 0), (41, .aload_n 1, 42, 0), (42, .getfield 31, 45, 0), (45, .putfield 31, 48, 0), (48, .aload_n 0, 49, 0), (49, .aload_n 1, 50, 0), (50, .getfield 34, 53, 0), (53, .putfield 34, 56, 0), (56, .aload_n 0, 57, 0), (57, .aload_n 1, 58, 0), (58, .getfield 37, 61, 0), (61, .putfield 37, 64, 0), (64, .aload_n 1, 65, 0), (65, .getfield 15, 68, 0), (68, .iconst 0, 69, 0), (69, .aload_n 0, 70, 0), (70, .getfield 15, 73, 0), (73, .iconst 0, 74, 0), (74, .iconst 5, 75, 0), (75, .invokestatic 40, 78, 0), (78, .return_, 79, 0)]
def mX9_copyFrom : XMI := (RX9, yX9_copyFrom, cX9_copyFrom, 2, (none), [], kX9_copyFrom)
theorem okX9_copyFrom : x_ok mX9_copyFrom := ⟨by decide +kernel, rfl, by decide⟩
def kX9_keepsFreshPlan : XK := [(0, .aload_n 0, 1, 0), (1, .getfield 9, 4, 0), (4, .bipush (-2), 6, 0), (6, .if_icmp .eq 15, 9, 21), (9, .aload_n 0, 10, 0), (10, .getfield 34, 13, 0), (13, .iload_n 1, 14, 0), (14, .if_icmp .ne 7, 17, 21), (17, .iconst 1, 18, 0), (18, .goto 4, 21, 22), (21, .iconst 0, 22, 0), (22, .ireturn, 23, 0)]
def mX9_keepsFreshPlan : XMI := (RX9, yX9_keepsFreshPlan, cX9_keepsFreshPlan, 2, (some FieldType.boolean), [], kX9_keepsFreshPlan)
theorem okX9_keepsFreshPlan : x_ok mX9_keepsFreshPlan := ⟨by decide +kernel, rfl, by decide⟩
def kX9_prefersKeptPlan : XK := [(0, .aload_n 0, 1, 0), (1, .getfield 31, 4, 0), (4, .aload_n 0, 5, 0), (5, .getfield 22, 8, 0), (8, .imul, 9, 0), (9, .aload_n 0, 10, 0), (10, .getfield 25, 13, 0), (13, .if_icmp .gt 7, 16, 20), (16, .iconst 1, 17, 0), (17, .goto 4, 20, 21), (20, .iconst 0, 21, 0), (21, .ireturn, 22, 0)]
def mX9_prefersKeptPlan : XMI := (RX9, yX9_prefersKeptPlan, cX9_prefersKeptPlan, 1, (some FieldType.boolean), [], kX9_prefersKeptPlan)
theorem okX9_prefersKeptPlan : x_ok mX9_prefersKeptPlan := ⟨by decide +kernel, rfl, by decide⟩
def kX9_keep : XK := [(0, .aload_n 0, 1, 0), (1, .iload_n 1, 2, 0), (2, .putfield 9, 5, 0), (5, .aload_n 0, 6, 0), (6, .iload_n 2, 7, 0), (7, .putfield 31, 10, 0), (10, .aload_n 0, 11, 0), (11, .iload_n 3, 12, 0), (12, .putfield 34, 15, 0), (15, .aload_n 0, 16, 0), (16, .dup, 17, 0), (17, .getfield 28, 20, 0), (20, .iconst 1, 21, 0), (21, .iadd, 22, 0), (22, .putfield 28, 25, 0), (25, .return_, 26, 0)]
def mX9_keep : XMI := (RX9, yX9_keep, cX9_keep, 4, (none), [], kX9_keep)
theorem okX9_keep : x_ok mX9_keep := ⟨by decide +kernel, rfl, by decide⟩
def kX9_learn : XK := [(0, .iload_n 1, 1, 0), (1, .ifCond .lt 45, 4, 46), (4, .iload_n 1, 5, 0), (5, .iconst 5, 6, 0), (6, .if_icmp .ge 40, 9, 46), (9, .bipush 100, 11, 0), (11, .iload_n 2, 12, 0), (12, .imul, 13, 0), (13, .iload_n 3, 14, 0), (14, .iconst 1, 15, 0), (15, .invokestatic 46, 18, 0), (18, .idiv, 19, 0), (19, .sipush 1000, 22, 0), (22, .invokestatic 52, 25, 0), (25, .istore 4, 27, 0), (27, .aload_n 0, 28, 0), (28, .getfield 15, 31, 0), (31, .iload_n 1, 32, 0), (32, .iconst 3, 33, 0), (33, .aload_n 0, 34, 0), (34, .getfield 15, 37, 0), (37, .iload_n 1, 38, 0), (38, .iaload, 39, 0), (39, .imul, 40, 0), (40, .iload 4, 42, 0), (42, .iadd, 43, 0), (43, .iconst 4, 44, 0), (44, .idiv, 45, 0), (45, .iastore, 46, 0), (46, .return_, 47, 0)]
def mX9_learn : XMI := (RX9, yX9_learn, cX9_learn, 5, (none), [], kX9_learn)
theorem okX9_learn : x_ok mX9_learn := ⟨by decide +kernel, rfl, by decide⟩
def kX10_init : XK := [(0, .aload_n 0, 1, 0), (1, .invokespecial 3, 4, 0), (4, .aload_n 0, 5, 0), (5, .sipush 800, 8, 0), (8, .newarray .byte, 10, 0), (10, .putfield 9, 13, 0), (13, .aload_n 0, 14, 0), (14, .iconst (-1), 15, 0), (15, .putfield 13, 18, 0), (18, .aload_n 0, 19, 0), (19, .new 17, 22, 0), (22, .dup, 23, 0), (23, .invokespecial 19, 26, 0), (26, .putfield 20, 29, 0), (29, .aload_n 0, 30, 0), (30, .bipush 10, 32, 0), (32, .anewarray 24, 35, 0), (35, .putfield 26, 38, 0), (38, .new 30, 41, 0), (41, .dup, 42, 0), (42, .invokespecial 32, 45, 0), (45, .astore_n 1, 46, 0), (46, .iconst 0, 47, 0), (47, .istore_n 2, 48, 0), (48, .iload_n 2, 49, 0), (49, .bipush 10, 51, 0), (51, .if_icmp .ge 23, 54, 74), (54, .aload_n 0, 55, 0), (55, .getfield 26, 58, 0), (58, .iload_n 2, 59, 0), (59, .new 24, 62, 0), (62, .dup, 63, 0), (63, .aload_n 1, 64, 0), (64, .invokespecial 33, 67, 0), (67, .aastore, 68, 0), (68, .iinc 2 1, 71, 0), (71, .goto (-23), 74, 48), (74, .return_, 75, 0)]
def mX10_init : XMI := (RX10, yX10_init, cX10_init, 3, (none), [], kX10_init)
theorem okX10_init : x_ok mX10_init := ⟨by decide +kernel, rfl, by decide⟩
def kX10_append : XK := [(0, .aload_n 0, 1, 0), (1, .getfield 36, 4, 0), (4, .bipush 20, 6, 0), (6, .iadd, 7, 0), (7, .sipush 800, 10, 0), (10, .if_icmp .le 5, 13, 15), (13, .iconst (-1), 14, 0), (14, .ireturn, 15, 0), (15, .aload_n 0, 16, 0), (16, .iload_n 1, 17, 0), (17, .invokevirtual 39, 20, 0), (20, .aload_n 0, 21, 0), (21, .iload_n 2, 22, 0), (22, .invokevirtual 39, 25, 0), (25, .aload_n 0, 26, 0), (26, .iload_n 3, 27, 0), (27, .invokevirtual 39, 30, 0), (30, .aload_n 0, 31, 0), (31, .iload 4, 33, 0), (33, .invokevirtual 39, 36, 0), (36, .aload_n 0, 37, 0), (37, .iload 5, 39, 0), (39, .invokevirtual 39, 42, 0), (42, .aload_n 0, 43, 0), (43, .getfield 36, 46, 0), (46, .ireturn, 47, 0)]
def mX10_append : XMI := (RX10, yX10_append, cX10_append, 6, (some FieldType.int), [], kX10_append)
theorem okX10_append : x_ok mX10_append := ⟨by decide +kernel, rfl, by decide⟩
def kX10_load : XK := [(0, .aload_n 0, 1, 0), (1, .iload_n 1, 2, 0), (2, .invokevirtual 43, 5, 0), (5, .aload_n 0, 6, 0), (6, .iconst 0, 7, 0), (7, .putfield 36, 10, 0), (10, .aload_n 0, 11, 0), (11, .getfield 20, 14, 0), (14, .aload_n 0, 15, 0), (15, .getfield 9, 18, 0), (18, .iload_n 1, 19, 0), (19, .invokevirtual 46, 22, 0), (22, .new 50, 25, 0), (25, .dup, 26, 0), (26, .aload_n 0, 27, 0), (27, .getfield 20, 30, 0), (30, .aload_n 0, 31, 0), (31, .getfield 26, 34, 0), (34, .aload_n 0, 35, 0), (35, .invokevirtual 52, 38, 0), (38, .aaload, 39, 0), (39, .invokespecial 56, 42, 0), (42, .astore_n 2, 43, 0), (43, .aload_n 2, 44, 0), (44, .invokevirtual 59, 47, 0), (47, .aload_n 0, 48, 0), (48, .aload_n 2, 49, 0), (49, .getfield 62, 52, 0), (52, .putfield 13, 55, 0), (55, .aload_n 2, 56, 0), (56, .getfield 65, 59, 0), (59, .ifCond .eq 8, 62, 67), (62, .aload_n 2, 63, 0), (63, .getfield 65, 66, 0), (66, .ireturn, 67, 0), (67, .aload_n 0, 68, 0), (68, .invokevirtual 68, 71, 0), (71, .aload_n 0, 72, 0), (72, .invokevirtual 71, 75, 0), (75, .getfield 75, 78, 0), (78, .getfield 79, 81, 0), (81, .invokevirtual 83, 84, 0), (84, .ireturn, 85, 0)]
def mX10_load : XMI := (RX10, yX10_load, cX10_load, 3, (some FieldType.int), [], kX10_load)
theorem okX10_load : x_ok mX10_load := ⟨by decide +kernel, rfl, by decide⟩
def kX10_errorOffset : XK := [(0, .aload_n 0, 1, 0), (1, .getfield 13, 4, 0), (4, .ireturn, 5, 0)]
def mX10_errorOffset : XMI := (RX10, yX10_errorOffset, cX10_errorOffset, 1, (some FieldType.int), [], kX10_errorOffset)
theorem okX10_errorOffset : x_ok mX10_errorOffset := ⟨by decide +kernel, rfl, by decide⟩
def kX10_count : XK := [(0, .aload_n 0, 1, 0), (1, .invokevirtual 71, 4, 0), (4, .astore_n 2, 5, 0), (5, .iload_n 1, 6, 0), (6, .tableswitch 119 0 8 #[50, 58, 63, 74, 79, 87, 95, 103, 111], 56, 0), (56, .aload_n 2, 57, 0), (57, .getfield 75, 60, 0), (60, .getfield 88, 63, 0), (63, .ireturn, 64, 0), (64, .aload_n 2, 65, 0), (65, .getfield 91, 68, 0), (68, .ireturn, 69, 0), (69, .aload_n 2, 70, 0), (70, .getfield 75, 73, 0), (73, .getfield 79, 76, 0), (76, .invokevirtual 83, 79, 0), (79, .ireturn, 80, 0), (80, .aload_n 2, 81, 0), (81, .getfield 94, 84, 0), (84, .ireturn, 85, 0), (85, .aload_n 2, 86, 0), (86, .getfield 75, 89, 0), (89, .getfield 97, 92, 0), (92, .ireturn, 93, 0), (93, .aload_n 2, 94, 0), (94, .getfield 75, 97, 0), (97, .getfield 100, 100, 0), (100, .ireturn, 101, 0), (101, .aload_n 2, 102, 0), (102, .getfield 75, 105, 0), (105, .getfield 103, 108, 0), (108, .ireturn, 109, 0), (109, .aload_n 2, 110, 0), (110, .getfield 75, 113, 0), (113, .getfield 106, 116, 0), (116, .ireturn, 117, 0), (117, .aload_n 2, 118, 0), (118, .getfield 109, 121, 0), (121, .getfield 113, 124, 0), (124, .ireturn, 125, 0), (125, .new 116, 128, 0), (128, .dup, 129, 0), (129, .ldc 118, 131, 0), (131, .invokespecial 120, 134, 0), (134, .athrow, 135, 0)]
def mX10_count : XMI := (RX10, yX10_count, cX10_count, 3, (some FieldType.int), [], kX10_count)
theorem okX10_count : x_ok mX10_count := ⟨by decide +kernel, rfl, by decide⟩
def kX10_column : XK := [(0, .aload_n 0, 1, 0), (1, .iload_n 1, 2, 0), (2, .invokevirtual 123, 5, 0), (5, .aload_n 0, 6, 0), (6, .invokevirtual 71, 9, 0), (9, .astore_n 3, 10, 0), (10, .iload_n 2, 11, 0), (11, .tableswitch 87 0 4 #[33, 42, 57, 67, 77], 44, 0), (44, .aload_n 3, 45, 0), (45, .getfield 75, 48, 0), (48, .iload_n 1, 49, 0), (49, .invokevirtual 126, 52, 0), (52, .ireturn, 53, 0), (53, .aload_n 3, 54, 0), (54, .getfield 130, 57, 0), (57, .iload_n 1, 58, 0), (58, .baload, 59, 0), (59, .ifCond .eq 7, 62, 66), (62, .iconst 1, 63, 0), (63, .goto 4, 66, 67), (66, .iconst 0, 67, 0), (67, .ireturn, 68, 0), (68, .aload_n 3, 69, 0), (69, .getfield 109, 72, 0), (72, .getfield 134, 75, 0), (75, .iload_n 1, 76, 0), (76, .iaload, 77, 0), (77, .ireturn, 78, 0), (78, .aload_n 3, 79, 0), (79, .getfield 109, 82, 0), (82, .getfield 138, 85, 0), (85, .iload_n 1, 86, 0), (86, .iaload, 87, 0), (87, .ireturn, 88, 0), (88, .aload_n 3, 89, 0), (89, .getfield 109, 92, 0), (92, .getfield 141, 95, 0), (95, .iload_n 1, 96, 0), (96, .iaload, 97, 0), (97, .ireturn, 98, 0), (98, .new 116, 101, 0), (101, .dup, 102, 0), (102, .ldc 118, 104, 0), (104, .invokespecial 120, 107, 0), (107, .athrow, 108, 0)]
def mX10_column : XMI := (RX10, yX10_column, cX10_column, 4, (some FieldType.int), [], kX10_column)
theorem okX10_column : x_ok mX10_column := ⟨by decide +kernel, rfl, by decide⟩
def kX10_value : XK := [(0, .aload_n 0, 1, 0), (1, .iload_n 1, 2, 0), (2, .invokevirtual 144, 5, 0), (5, .aload_n 0, 6, 0), (6, .iload_n 2, 7, 0), (7, .invokevirtual 123, 10, 0), (10, .aload_n 0, 11, 0), (11, .invokevirtual 71, 14, 0), (14, .iload_n 1, 15, 0), (15, .iload_n 2, 16, 0), (16, .invokevirtual 147, 19, 0), (19, .ireturn, 20, 0)]
def mX10_value : XMI := (RX10, yX10_value, cX10_value, 3, (some FieldType.int), [], kX10_value)
theorem okX10_value : x_ok mX10_value := ⟨by decide +kernel, rfl, by decide⟩
def kX10_named : XK := [(0, .aload_n 0, 1, 0), (1, .iload_n 1, 2, 0), (2, .invokevirtual 43, 5, 0), (5, .aload_n 0, 6, 0), (6, .iconst 0, 7, 0), (7, .putfield 36, 10, 0), (10, .aload_n 0, 11, 0), (11, .invokevirtual 71, 14, 0), (14, .getfield 75, 17, 0), (17, .aload_n 0, 18, 0), (18, .getfield 9, 21, 0), (21, .iconst 0, 22, 0), (22, .iload_n 1, 23, 0), (23, .invokestatic 151, 26, 0), (26, .invokevirtual 155, 29, 0), (29, .ireturn, 30, 0)]
def mX10_named : XMI := (RX10, yX10_named, cX10_named, 2, (some FieldType.int), [], kX10_named)
theorem okX10_named : x_ok mX10_named := ⟨by decide +kernel, rfl, by decide⟩
def kX10_hole : XK := [(0, .aload_n 0, 1, 0), (1, .iload_n 1, 2, 0), (2, .invokevirtual 159, 5, 0), (5, .iload_n 2, 6, 0), (6, .ifCond .lt 8, 9, 14), (9, .iload_n 2, 10, 0), (10, .iconst 4, 11, 0), (11, .if_icmp .lt 13, 14, 24), (14, .new 116, 17, 0), (17, .dup, 18, 0), (18, .ldc 162, 20, 0), (20, .invokespecial 120, 23, 0), (23, .athrow, 24, 0), (24, .aload_n 0, 25, 0), (25, .invokevirtual 71, 28, 0), (28, .getfield 75, 31, 0), (31, .getfield 79, 34, 0), (34, .iload_n 1, 35, 0), (35, .invokevirtual 164, 38, 0), (38, .checkcast 168, 41, 0), (41, .getfield 170, 44, 0), (44, .iload_n 2, 45, 0), (45, .iaload, 46, 0), (46, .ireturn, 47, 0)]
def mX10_hole : XMI := (RX10, yX10_hole, cX10_hole, 3, (some FieldType.int), [], kX10_hole)
theorem okX10_hole : x_ok mX10_hole := ⟨by decide +kernel, rfl, by decide⟩
def kX10_statement : XK := [(0, .aload_n 0, 1, 0), (1, .iload_n 1, 2, 0), (2, .invokevirtual 159, 5, 0), (5, .aload_n 0, 6, 0), (6, .invokevirtual 71, 9, 0), (9, .astore_n 3, 10, 0), (10, .aload_n 3, 11, 0), (11, .getfield 173, 14, 0), (14, .iload_n 1, 15, 0), (15, .aaload, 16, 0), (16, .astore 4, 18, 0), (18, .iload_n 2, 19, 0), (19, .tableswitch 99 0 5 #[37, 43, 49, 55, 61, 93], 56, 0), (56, .aload 4, 58, 0), (58, .getfield 177, 61, 0), (61, .ireturn, 62, 0), (62, .aload 4, 64, 0), (64, .getfield 182, 67, 0), (67, .ireturn, 68, 0), (68, .aload 4, 70, 0), (70, .getfield 185, 73, 0), (73, .ireturn, 74, 0), (74, .aload 4, 76, 0), (76, .getfield 188, 79, 0), (79, .ireturn, 80, 0), (80, .aload 4, 82, 0), (82, .getfield 191, 85, 0), (85, .bipush (-2), 87, 0), (87, .if_icmp .ne 7, 90, 94), (90, .iconst 0, 91, 0), (91, .goto 20, 94, 111), (94, .aload 4, 96, 0), (96, .aload_n 3, 97, 0), (97, .getfield 94, 100, 0), (100, .invokevirtual 194, 103, 0), (103, .ifCond .eq 7, 106, 110), (106, .iconst 1, 107, 0), (107, .goto 4, 110, 111), (110, .iconst 2, 111, 0), (111, .ireturn, 112, 0), (112, .aload 4, 114, 0), (114, .getfield 198, 117, 0), (117, .ireturn, 118, 0), (118, .new 116, 121, 0), (121, .dup, 122, 0), (122, .ldc 118, 124, 0), (124, .invokespecial 120, 127, 0), (127, .athrow, 128, 0)]
def mX10_statement : XMI := (RX10, yX10_statement, cX10_statement, 5, (some FieldType.int), [], kX10_statement)
theorem okX10_statement : x_ok mX10_statement := ⟨by decide +kernel, rfl, by decide⟩
def kX10_learned : XK := [(0, .aload_n 0, 1, 0), (1, .iload_n 1, 2, 0), (2, .invokevirtual 159, 5, 0), (5, .aload_n 0, 6, 0), (6, .iload_n 2, 7, 0), (7, .invokevirtual 123, 10, 0), (10, .aload_n 0, 11, 0), (11, .invokevirtual 71, 14, 0), (14, .getfield 173, 17, 0), (17, .iload_n 1, 18, 0), (18, .aaload, 19, 0), (19, .getfield 201, 22, 0), (22, .iload_n 2, 23, 0), (23, .iaload, 24, 0), (24, .ireturn, 25, 0)]
def mX10_learned : XMI := (RX10, yX10_learned, cX10_learned, 3, (some FieldType.int), [], kX10_learned)
theorem okX10_learned : x_ok mX10_learned := ⟨by decide +kernel, rfl, by decide⟩
def kX10_kept : XK := [(0, .aload_n 0, 1, 0), (1, .iload_n 1, 2, 0), (2, .invokevirtual 159, 5, 0), (5, .aload_n 0, 6, 0), (6, .invokevirtual 71, 9, 0), (9, .getfield 173, 12, 0), (12, .iload_n 1, 13, 0), (13, .aaload, 14, 0), (14, .getfield 191, 17, 0), (17, .ireturn, 18, 0)]
def mX10_kept : XMI := (RX10, yX10_kept, cX10_kept, 2, (some FieldType.int), [], kX10_kept)
theorem okX10_kept : x_ok mX10_kept := ⟨by decide +kernel, rfl, by decide⟩
def kX10_genericCost : XK := [(0, .aload_n 0, 1, 0), (1, .iload_n 1, 2, 0), (2, .invokevirtual 159, 5, 0), (5, .aload_n 0, 6, 0), (6, .iload_n 2, 7, 0), (7, .invokevirtual 204, 10, 0), (10, .aload_n 0, 11, 0), (11, .invokevirtual 71, 14, 0), (14, .iload_n 1, 15, 0), (15, .iload_n 2, 16, 0), (16, .getstatic 207, 19, 0), (19, .invokevirtual 210, 22, 0), (22, .ireturn, 23, 0)]
def mX10_genericCost : XMI := (RX10, yX10_genericCost, cX10_genericCost, 3, (some FieldType.int), [], kX10_genericCost)
theorem okX10_genericCost : x_ok mX10_genericCost := ⟨by decide +kernel, rfl, by decide⟩
def kX10_special : XK := [(0, .aload_n 0, 1, 0), (1, .iload_n 1, 2, 0), (2, .iload_n 2, 3, 0), (3, .iload_n 3, 4, 0), (4, .iload 4, 6, 0), (6, .iload 5, 8, 0), (8, .invokevirtual 214, 11, 0), (11, .astore 6, 13, 0), (13, .aload_n 0, 14, 0), (14, .invokevirtual 71, 17, 0), (17, .iload_n 1, 18, 0), (18, .aload 6, 20, 0), (20, .invokevirtual 218, 23, 0), (23, .ireturn, 24, 0)]
def mX10_special : XMI := (RX10, yX10_special, cX10_special, 7, (some FieldType.int), [], kX10_special)
theorem okX10_special : x_ok mX10_special := ⟨by decide +kernel, rfl, by decide⟩
def kX10_specialCost : XK := [(0, .aload_n 0, 1, 0), (1, .iload_n 1, 2, 0), (2, .iload_n 3, 3, 0), (3, .iload 4, 5, 0), (5, .iload 5, 7, 0), (7, .iload 6, 9, 0), (9, .invokevirtual 214, 12, 0), (12, .astore 7, 14, 0), (14, .aload_n 0, 15, 0), (15, .iload_n 2, 16, 0), (16, .invokevirtual 204, 19, 0), (19, .aload_n 0, 20, 0), (20, .invokevirtual 71, 23, 0), (23, .iload_n 1, 24, 0), (24, .iload_n 2, 25, 0), (25, .aload 7, 27, 0), (27, .invokevirtual 210, 30, 0), (30, .ireturn, 31, 0)]
def mX10_specialCost : XMI := (RX10, yX10_specialCost, cX10_specialCost, 8, (some FieldType.int), [], kX10_specialCost)
theorem okX10_specialCost : x_ok mX10_specialCost := ⟨by decide +kernel, rfl, by decide⟩
def kX10_wouldUse : XK := [(0, .aload_n 0, 1, 0), (1, .iload_n 1, 2, 0), (2, .iload_n 2, 3, 0), (3, .iload_n 3, 4, 0), (4, .iload 4, 6, 0), (6, .iload 5, 8, 0), (8, .invokevirtual 214, 11, 0), (11, .astore 6, 13, 0), (13, .aload_n 0, 14, 0), (14, .invokevirtual 222, 17, 0), (17, .iload_n 1, 18, 0), (18, .aload 6, 20, 0), (20, .invokevirtual 225, 23, 0), (23, .ireturn, 24, 0)]
def mX10_wouldUse : XMI := (RX10, yX10_wouldUse, cX10_wouldUse, 7, (some FieldType.int), [], kX10_wouldUse)
theorem okX10_wouldUse : x_ok mX10_wouldUse := ⟨by decide +kernel, rfl, by decide⟩
def kX10_rows : XK := [(0, .aload_n 0, 1, 0), (1, .iload_n 1, 2, 0), (2, .iload_n 2, 3, 0), (3, .iload_n 3, 4, 0), (4, .iload 4, 6, 0), (6, .iload 5, 8, 0), (8, .invokevirtual 214, 11, 0), (11, .astore 6, 13, 0), (13, .aload_n 0, 14, 0), (14, .invokevirtual 71, 17, 0), (17, .iload_n 1, 18, 0), (18, .aload 6, 20, 0), (20, .invokevirtual 228, 23, 0), (23, .lreturn, 24, 0)]
def mX10_rows : XMI := (RX10, yX10_rows, cX10_rows, 7, (some FieldType.long), [], kX10_rows)
theorem okX10_rows : x_ok mX10_rows := ⟨by decide +kernel, rfl, by decide⟩
def kX10_run : XK := [(0, .aload_n 0, 1, 0), (1, .iload_n 1, 2, 0), (2, .iload_n 2, 3, 0), (3, .iload_n 3, 4, 0), (4, .iload 4, 6, 0), (6, .iload 5, 8, 0), (8, .invokevirtual 214, 11, 0), (11, .astore 6, 13, 0), (13, .aload_n 0, 14, 0), (14, .invokevirtual 222, 17, 0), (17, .iload_n 1, 18, 0), (18, .aload 6, 20, 0), (20, .invokevirtual 232, 23, 0), (23, .aload_n 0, 24, 0), (24, .invokevirtual 68, 27, 0), (27, .aload_n 0, 28, 0), (28, .invokevirtual 71, 31, 0), (31, .iload_n 1, 32, 0), (32, .aload 6, 34, 0), (34, .invokevirtual 228, 37, 0), (37, .invokestatic 236, 40, 0), (40, .ireturn, 41, 0)]
def mX10_run : XMI := (RX10, yX10_run, cX10_run, 7, (some FieldType.int), [], kX10_run)
theorem okX10_run : x_ok mX10_run := ⟨by decide +kernel, rfl, by decide⟩
def kX10_insert : XK := [(0, .iconst 5, 1, 0), (1, .newarray .int, 3, 0), (3, .dup, 4, 0), (4, .iconst 0, 5, 0), (5, .iload_n 1, 6, 0), (6, .iastore, 7, 0), (7, .dup, 8, 0), (8, .iconst 1, 9, 0), (9, .iload_n 2, 10, 0), (10, .iastore, 11, 0), (11, .dup, 12, 0), (12, .iconst 2, 13, 0), (13, .iload_n 3, 14, 0), (14, .iastore, 15, 0), (15, .dup, 16, 0), (16, .iconst 3, 17, 0), (17, .iload 4, 19, 0), (19, .iastore, 20, 0), (20, .dup, 21, 0), (21, .iconst 4, 22, 0), (22, .iload 5, 24, 0), (24, .iastore, 25, 0), (25, .astore 6, 27, 0), (27, .aload_n 0, 28, 0), (28, .invokevirtual 71, 31, 0), (31, .getfield 75, 34, 0), (34, .astore 7, 36, 0), (36, .iconst 0, 37, 0), (37, .istore 8, 39, 0), (39, .iload 8, 41, 0), (41, .iconst 5, 42, 0), (42, .if_icmp .ge 24, 45, 66), (45, .aload 6, 47, 0), (47, .iload 8, 49, 0), (49, .iaload, 50, 0), (50, .aload 7, 52, 0), (52, .iload 8, 54, 0), (54, .invokevirtual 126, 57, 0), (57, .invokestatic 241, 60, 0), (60, .iinc 8 1, 63, 0), (63, .goto (-24), 66, 39), (66, .aload 7, 68, 0), (68, .getfield 88, 71, 0), (71, .ifCond .eq 15, 74, 86), (74, .aload_n 0, 75, 0), (75, .invokevirtual 71, 78, 0), (78, .getfield 91, 81, 0), (81, .bipush 40, 83, 0), (83, .if_icmp .lt 13, 86, 96), (86, .new 245, 89, 0), (89, .dup, 90, 0), (90, .ldc 247, 92, 0), (92, .invokespecial 249, 95, 0), (95, .athrow, 96, 0), (96, .aload_n 0, 97, 0), (97, .invokevirtual 222, 100, 0), (100, .astore 8, 102, 0), (102, .iconst 0, 103, 0), (103, .istore 9, 105, 0), (105, .iload 9, 107, 0), (107, .iconst 5, 108, 0), (108, .if_icmp .ge 26, 111, 134), (111, .aload 8, 113, 0), (113, .aload 8, 115, 0), (115, .getfield 91, 118, 0), (118, .iload 9, 120, 0), (120, .aload 6, 122, 0), (122, .iload 9, 124, 0), (124, .iaload, 125, 0), (125, .invokevirtual 250, 128, 0), (128, .iinc 9 1, 131, 0), (131, .goto (-26), 134, 105), (134, .aload 8, 136, 0), (136, .dup, 137, 0), (137, .getfield 91, 140, 0), (140, .iconst 1, 141, 0), (141, .iadd, 142, 0), (142, .putfield 91, 145, 0), (145, .aload_n 0, 146, 0), (146, .invokevirtual 68, 149, 0), (149, .aload_n 0, 150, 0), (150, .invokevirtual 71, 153, 0), (153, .getfield 91, 156, 0), (156, .ireturn, 157, 0)]
def mX10_insert : XMI := (RX10, yX10_insert, cX10_insert, 10, (some FieldType.int), [], kX10_insert)
theorem okX10_insert : x_ok mX10_insert := ⟨by decide +kernel, rfl, by decide⟩
def kX10_delete : XK := [(0, .aload_n 0, 1, 0), (1, .iload_n 1, 2, 0), (2, .invokevirtual 144, 5, 0), (5, .aload_n 0, 6, 0), (6, .invokevirtual 222, 9, 0), (9, .iload_n 1, 10, 0), (10, .invokevirtual 254, 13, 0), (13, .aload_n 0, 14, 0), (14, .invokevirtual 68, 17, 0), (17, .aload_n 0, 18, 0), (18, .invokevirtual 71, 21, 0), (21, .getfield 91, 24, 0), (24, .ireturn, 25, 0)]
def mX10_delete : XMI := (RX10, yX10_delete, cX10_delete, 2, (some FieldType.int), [], kX10_delete)
theorem okX10_delete : x_ok mX10_delete := ⟨by decide +kernel, rfl, by decide⟩
def kX10_setIndex : XK := [(0, .aload_n 0, 1, 0), (1, .iload_n 1, 2, 0), (2, .invokevirtual 123, 5, 0), (5, .aload_n 0, 6, 0), (6, .invokevirtual 222, 9, 0), (9, .astore_n 3, 10, 0), (10, .aload_n 3, 11, 0), (11, .getfield 130, 14, 0), (14, .iload_n 1, 15, 0), (15, .baload, 16, 0), (16, .iload_n 2, 17, 0), (17, .if_icmp .eq 7, 20, 24), (20, .iconst 1, 21, 0), (21, .goto 4, 24, 25), (24, .iconst 0, 25, 0), (25, .istore 4, 27, 0), (27, .iload 4, 29, 0), (29, .ifCond .eq 20, 32, 49), (32, .aload_n 3, 33, 0), (33, .getfield 130, 36, 0), (36, .iload_n 1, 37, 0), (37, .iload_n 2, 38, 0), (38, .bastore, 39, 0), (39, .aload_n 3, 40, 0), (40, .dup, 41, 0), (41, .getfield 94, 44, 0), (44, .iconst 1, 45, 0), (45, .iadd, 46, 0), (46, .putfield 94, 49, 0), (49, .aload_n 0, 50, 0), (50, .invokevirtual 68, 53, 0), (53, .iload 4, 55, 0), (55, .ireturn, 56, 0)]
def mX10_setIndex : XMI := (RX10, yX10_setIndex, cX10_setIndex, 5, (some FieldType.boolean), [], kX10_setIndex)
theorem okX10_setIndex : x_ok mX10_setIndex := ⟨by decide +kernel, rfl, by decide⟩
def kX10_analyze : XK := [(0, .aload_n 0, 1, 0), (1, .invokevirtual 222, 4, 0), (4, .astore_n 1, 5, 0), (5, .aload_n 1, 6, 0), (6, .invokevirtual 257, 9, 0), (9, .aload_n 1, 10, 0), (10, .dup, 11, 0), (11, .getfield 94, 14, 0), (14, .iconst 1, 15, 0), (15, .iadd, 16, 0), (16, .putfield 94, 19, 0), (19, .aload_n 0, 20, 0), (20, .invokevirtual 68, 23, 0), (23, .aload_n 0, 24, 0), (24, .invokevirtual 71, 27, 0), (27, .getfield 94, 30, 0), (30, .ireturn, 31, 0)]
def mX10_analyze : XMI := (RX10, yX10_analyze, cX10_analyze, 2, (some FieldType.int), [], kX10_analyze)
theorem okX10_analyze : x_ok mX10_analyze := ⟨by decide +kernel, rfl, by decide⟩
def kX10_undo : XK := [(0, .aload_n 0, 1, 0), (1, .getfield 260, 4, 0), (4, .ifCond .ne 5, 7, 9), (7, .iconst (-1), 8, 0), (8, .ireturn, 9, 0), (9, .aload_n 0, 10, 0), (10, .aload_n 0, 11, 0), (11, .getfield 263, 14, 0), (14, .bipush 10, 16, 0), (16, .iadd, 17, 0), (17, .iconst 1, 18, 0), (18, .isub, 19, 0), (19, .bipush 10, 21, 0), (21, .irem, 22, 0), (22, .putfield 263, 25, 0), (25, .aload_n 0, 26, 0), (26, .dup, 27, 0), (27, .getfield 260, 30, 0), (30, .iconst 1, 31, 0), (31, .isub, 32, 0), (32, .putfield 260, 35, 0), (35, .aload_n 0, 36, 0), (36, .getfield 260, 39, 0), (39, .ireturn, 40, 0)]
def mX10_undo : XMI := (RX10, yX10_undo, cX10_undo, 1, (some FieldType.int), [], kX10_undo)
theorem okX10_undo : x_ok mX10_undo := ⟨by decide +kernel, rfl, by decide⟩
def kX10_checksum : XK := [(0, .lconst 0, 1, 0), (1, .lstore_n 1, 2, 0), (2, .iconst 0, 3, 0), (3, .istore_n 3, 4, 0), (4, .iload_n 3, 5, 0), (5, .bipush 8, 7, 0), (7, .if_icmp .gt 22, 10, 29), (10, .ldc2_w 266, 13, 0), (13, .lload_n 1, 14, 0), (14, .lmul, 15, 0), (15, .aload_n 0, 16, 0), (16, .iload_n 3, 17, 0), (17, .invokevirtual 268, 20, 0), (20, .i2l, 21, 0), (21, .ladd, 22, 0), (22, .lstore_n 1, 23, 0), (23, .iinc 3 1, 26, 0), (26, .goto (-22), 29, 4), (29, .iconst 0, 30, 0), (30, .istore_n 3, 31, 0), (31, .iload_n 3, 32, 0), (32, .aload_n 0, 33, 0), (33, .iconst 0, 34, 0), (34, .invokevirtual 268, 37, 0), (37, .if_icmp .ge 39, 40, 76), (40, .iconst 0, 41, 0), (41, .istore 4, 43, 0), (43, .iload 4, 45, 0), (45, .iconst 4, 46, 0), (46, .if_icmp .gt 24, 49, 70), (49, .ldc2_w 266, 52, 0), (52, .lload_n 1, 53, 0), (53, .lmul, 54, 0), (54, .aload_n 0, 55, 0), (55, .iload_n 3, 56, 0), (56, .iload 4, 58, 0), (58, .invokevirtual 271, 61, 0), (61, .i2l, 62, 0), (62, .ladd, 63, 0), (63, .lstore_n 1, 64, 0), (64, .iinc 4 1, 67, 0), (67, .goto (-24), 70, 43), (70, .iinc 3 1, 73, 0), (73, .goto (-42), 76, 31), (76, .iconst 0, 77, 0), (77, .istore_n 3, 78, 0), (78, .iload_n 3, 79, 0), (79, .aload_n 0, 80, 0), (80, .iconst 1, 81, 0), (81, .invokevirtual 268, 84, 0), (84, .if_icmp .ge 43, 87, 127), (87, .iconst 0, 88, 0), (88, .istore 4, 90, 0), (90, .iload 4, 92, 0), (92, .aload_n 0, 93, 0), (93, .iconst 0, 94, 0), (94, .invokevirtual 268, 97, 0), (97, .if_icmp .ge 24, 100, 121), (100, .ldc2_w 266, 103, 0), (103, .lload_n 1, 104, 0), (104, .lmul, 105, 0), (105, .aload_n 0, 106, 0), (106, .iload_n 3, 107, 0), (107, .iload 4, 109, 0), (109, .invokevirtual 274, 112, 0), (112, .i2l, 113, 0), (113, .ladd, 114, 0), (114, .lstore_n 1, 115, 0), (115, .iinc 4 1, 118, 0), (118, .goto (-28), 121, 90), (121, .iinc 3 1, 124, 0), (124, .goto (-46), 127, 78), (127, .iconst 0, 128, 0), (128, .istore_n 3, 129, 0), (129, .iload_n 3, 130, 0), (130, .aload_n 0, 131, 0), (131, .iconst 2, 132, 0), (132, .invokevirtual 268, 135, 0), (135, .if_icmp .ge 16, 138, 151), (138, .aload_n 0, 139, 0), (139, .lload_n 1, 140, 0), (140, .iload_n 3, 141, 0), (141, .invokevirtual 277, 144, 0), (144, .lstore_n 1, 145, 0), (145, .iinc 3 1, 148, 0), (148, .goto (-19), 151, 129), (151, .lload_n 1, 152, 0), (152, .lreturn, 153, 0)]
def mX10_checksum : XMI := (RX10, yX10_checksum, cX10_checksum, 5, (some FieldType.long), [], kX10_checksum)
theorem okX10_checksum : x_ok mX10_checksum := ⟨by decide +kernel, rfl, by decide⟩
def kX10_addStatement : XK := [(0, .lload_n 1, 1, 0), (1, .lstore 4, 3, 0), (3, .iconst 0, 4, 0), (4, .istore 6, 6, 0), (6, .iload 6, 8, 0), (8, .iconst 5, 9, 0), (9, .if_icmp .gt 26, 12, 35), (12, .ldc2_w 266, 15, 0), (15, .lload 4, 17, 0), (17, .lmul, 18, 0), (18, .aload_n 0, 19, 0), (19, .iload_n 3, 20, 0), (20, .iload 6, 22, 0), (22, .invokevirtual 281, 25, 0), (25, .i2l, 26, 0), (26, .ladd, 27, 0), (27, .lstore 4, 29, 0), (29, .iinc 6 1, 32, 0), (32, .goto (-26), 35, 6), (35, .ldc2_w 266, 38, 0), (38, .lload 4, 40, 0), (40, .lmul, 41, 0), (41, .aload_n 0, 42, 0), (42, .iload_n 3, 43, 0), (43, .invokevirtual 284, 46, 0), (46, .i2l, 47, 0), (47, .ladd, 48, 0), (48, .lstore 4, 50, 0), (50, .iconst 0, 51, 0), (51, .istore 6, 53, 0), (53, .iload 6, 55, 0), (55, .iconst 4, 56, 0), (56, .if_icmp .ge 26, 59, 82), (59, .ldc2_w 266, 62, 0), (62, .lload 4, 64, 0), (64, .lmul, 65, 0), (65, .aload_n 0, 66, 0), (66, .iload_n 3, 67, 0), (67, .iload 6, 69, 0), (69, .invokevirtual 287, 72, 0), (72, .i2l, 73, 0), (73, .ladd, 74, 0), (74, .lstore 4, 76, 0), (76, .iinc 6 1, 79, 0), (79, .goto (-26), 82, 53), (82, .iconst 0, 83, 0), (83, .istore 6, 85, 0), (85, .iload 6, 87, 0), (87, .aload_n 0, 88, 0), (88, .iconst 0, 89, 0), (89, .invokevirtual 268, 92, 0), (92, .if_icmp .ge 26, 95, 118), (95, .ldc2_w 266, 98, 0), (98, .lload 4, 100, 0), (100, .lmul, 101, 0), (101, .aload_n 0, 102, 0), (102, .iload_n 3, 103, 0), (103, .iload 6, 105, 0), (105, .invokevirtual 290, 108, 0), (108, .i2l, 109, 0), (109, .ladd, 110, 0), (110, .lstore 4, 112, 0), (112, .iinc 6 1, 115, 0), (115, .goto (-30), 118, 85), (118, .lload 4, 120, 0), (120, .lreturn, 121, 0)]
def mX10_addStatement : XMI := (RX10, yX10_addStatement, cX10_addStatement, 7, (some FieldType.long), [], kX10_addStatement)
theorem okX10_addStatement : x_ok mX10_addStatement := ⟨by decide +kernel, rfl, by decide⟩
def kX10_appendWord : XK := [(0, .bipush 24, 2, 0), (2, .istore_n 2, 3, 0), (3, .iload_n 2, 4, 0), (4, .ifCond .lt 42, 7, 46), (7, .aload_n 0, 8, 0), (8, .getfield 36, 11, 0), (11, .sipush 800, 14, 0), (14, .if_icmp .ge 26, 17, 40), (17, .aload_n 0, 18, 0), (18, .getfield 9, 21, 0), (21, .aload_n 0, 22, 0), (22, .getfield 36, 25, 0), (25, .iload_n 1, 26, 0), (26, .iload_n 2, 27, 0), (27, .ishr, 28, 0), (28, .i2b, 29, 0), (29, .bastore, 30, 0), (30, .aload_n 0, 31, 0), (31, .dup, 32, 0), (32, .getfield 36, 35, 0), (35, .iconst 1, 36, 0), (36, .iadd, 37, 0), (37, .putfield 36, 40, 0), (40, .iinc 2 (-8), 43, 0), (43, .goto (-40), 46, 3), (46, .return_, 47, 0)]
def mX10_appendWord : XMI := (RX10, yX10_appendWord, cX10_appendWord, 3, (none), [], kX10_appendWord)
theorem okX10_appendWord : x_ok mX10_appendWord := ⟨by decide +kernel, rfl, by decide⟩
def kX10_current : XK := [(0, .aload_n 0, 1, 0), (1, .getfield 26, 4, 0), (4, .aload_n 0, 5, 0), (5, .getfield 263, 8, 0), (8, .aaload, 9, 0), (9, .areturn, 10, 0)]
def mX10_current : XMI := (RX10, yX10_current, cX10_current, 1, (some (FieldType.object "PreparedPlans$Data")), [], kX10_current)
theorem okX10_current : x_ok mX10_current := ⟨by decide +kernel, rfl, by decide⟩
def kX10_spareSlot : XK := [(0, .aload_n 0, 1, 0), (1, .getfield 263, 4, 0), (4, .iconst 1, 5, 0), (5, .iadd, 6, 0), (6, .bipush 10, 8, 0), (8, .irem, 9, 0), (9, .ireturn, 10, 0)]
def mX10_spareSlot : XMI := (RX10, yX10_spareSlot, cX10_spareSlot, 1, (some FieldType.int), [], kX10_spareSlot)
theorem okX10_spareSlot : x_ok mX10_spareSlot := ⟨by decide +kernel, rfl, by decide⟩
def kX10_spareCopy : XK := [(0, .aload_n 0, 1, 0), (1, .getfield 26, 4, 0), (4, .aload_n 0, 5, 0), (5, .invokevirtual 52, 8, 0), (8, .aaload, 9, 0), (9, .astore_n 1, 10, 0), (10, .aload_n 1, 11, 0), (11, .aload_n 0, 12, 0), (12, .invokevirtual 71, 15, 0), (15, .invokevirtual 293, 18, 0), (18, .aload_n 1, 19, 0), (19, .areturn, 20, 0)]
def mX10_spareCopy : XMI := (RX10, yX10_spareCopy, cX10_spareCopy, 2, (some (FieldType.object "PreparedPlans$Data")), [], kX10_spareCopy)
theorem okX10_spareCopy : x_ok mX10_spareCopy := ⟨by decide +kernel, rfl, by decide⟩
def kX10_takeSpare : XK := [(0, .aload_n 0, 1, 0), (1, .aload_n 0, 2, 0), (2, .invokevirtual 52, 5, 0), (5, .putfield 263, 8, 0), (8, .aload_n 0, 9, 0), (9, .aload_n 0, 10, 0), (10, .getfield 260, 13, 0), (13, .iconst 1, 14, 0), (14, .iadd, 15, 0), (15, .bipush 8, 17, 0), (17, .invokestatic 297, 20, 0), (20, .putfield 260, 23, 0), (23, .return_, 24, 0)]
def mX10_takeSpare : XMI := (RX10, yX10_takeSpare, cX10_takeSpare, 1, (none), [], kX10_takeSpare)
theorem okX10_takeSpare : x_ok mX10_takeSpare := ⟨by decide +kernel, rfl, by decide⟩
def kX10_checkLength : XK := [(0, .iload_n 1, 1, 0), (1, .ifCond .lt 11, 4, 12), (4, .iload_n 1, 5, 0), (5, .aload_n 0, 6, 0), (6, .getfield 36, 9, 0), (9, .if_icmp .le 14, 12, 23), (12, .new 116, 15, 0), (15, .dup, 16, 0), (16, .ldc_w 302, 19, 0), (19, .invokespecial 120, 22, 0), (22, .athrow, 23, 0), (23, .return_, 24, 0)]
def mX10_checkLength : XMI := (RX10, yX10_checkLength, cX10_checkLength, 2, (none), [], kX10_checkLength)
theorem okX10_checkLength : x_ok mX10_checkLength := ⟨by decide +kernel, rfl, by decide⟩
def kX10_checkColumn : XK := [(0, .iload_n 1, 1, 0), (1, .ifCond .lt 17, 4, 18), (4, .iload_n 1, 5, 0), (5, .aload_n 0, 6, 0), (6, .invokevirtual 71, 9, 0), (9, .getfield 75, 12, 0), (12, .getfield 88, 15, 0), (15, .if_icmp .lt 14, 18, 29), (18, .new 304, 21, 0), (21, .dup, 22, 0), (22, .ldc_w 306, 25, 0), (25, .invokespecial 308, 28, 0), (28, .athrow, 29, 0), (29, .return_, 30, 0)]
def mX10_checkColumn : XMI := (RX10, yX10_checkColumn, cX10_checkColumn, 2, (none), [], kX10_checkColumn)
theorem okX10_checkColumn : x_ok mX10_checkColumn := ⟨by decide +kernel, rfl, by decide⟩
def kX10_checkRow : XK := [(0, .iload_n 1, 1, 0), (1, .ifCond .lt 14, 4, 15), (4, .iload_n 1, 5, 0), (5, .aload_n 0, 6, 0), (6, .invokevirtual 71, 9, 0), (9, .getfield 91, 12, 0), (12, .if_icmp .lt 14, 15, 26), (15, .new 304, 18, 0), (18, .dup, 19, 0), (19, .ldc_w 309, 22, 0), (22, .invokespecial 308, 25, 0), (25, .athrow, 26, 0), (26, .return_, 27, 0)]
def mX10_checkRow : XMI := (RX10, yX10_checkRow, cX10_checkRow, 2, (none), [], kX10_checkRow)
theorem okX10_checkRow : x_ok mX10_checkRow := ⟨by decide +kernel, rfl, by decide⟩
def kX10_checkStatement : XK := [(0, .iload_n 1, 1, 0), (1, .ifCond .lt 20, 4, 21), (4, .iload_n 1, 5, 0), (5, .aload_n 0, 6, 0), (6, .invokevirtual 71, 9, 0), (9, .getfield 75, 12, 0), (12, .getfield 79, 15, 0), (15, .invokevirtual 83, 18, 0), (18, .if_icmp .lt 14, 21, 32), (21, .new 304, 24, 0), (24, .dup, 25, 0), (25, .ldc_w 311, 28, 0), (28, .invokespecial 308, 31, 0), (31, .athrow, 32, 0), (32, .return_, 33, 0)]
def mX10_checkStatement : XMI := (RX10, yX10_checkStatement, cX10_checkStatement, 2, (none), [], kX10_checkStatement)
theorem okX10_checkStatement : x_ok mX10_checkStatement := ⟨by decide +kernel, rfl, by decide⟩
def kX10_checkPlan : XK := [(0, .iload_n 1, 1, 0), (1, .iconst (-1), 2, 0), (2, .if_icmp .lt 17, 5, 19), (5, .iload_n 1, 6, 0), (6, .aload_n 0, 7, 0), (7, .invokevirtual 71, 10, 0), (10, .getfield 75, 13, 0), (13, .getfield 88, 16, 0), (16, .if_icmp .lt 14, 19, 30), (19, .new 116, 22, 0), (22, .dup, 23, 0), (23, .ldc_w 313, 26, 0), (26, .invokespecial 120, 29, 0), (29, .athrow, 30, 0), (30, .return_, 31, 0)]
def mX10_checkPlan : XMI := (RX10, yX10_checkPlan, cX10_checkPlan, 2, (none), [], kX10_checkPlan)
theorem okX10_checkPlan : x_ok mX10_checkPlan := ⟨by decide +kernel, rfl, by decide⟩
def kX10_checkRange : XK := [(0, .iload_n 0, 1, 0), (1, .ifCond .lt 11, 4, 12), (4, .iload_n 0, 5, 0), (5, .iload_n 1, 6, 0), (6, .invokestatic 315, 9, 0), (9, .if_icmp .le 14, 12, 23), (12, .new 116, 15, 0), (15, .dup, 16, 0), (16, .ldc_w 318, 19, 0), (19, .invokespecial 120, 22, 0), (22, .athrow, 23, 0), (23, .return_, 24, 0)]
def mX10_checkRange : XMI := (RX10, yX10_checkRange, cX10_checkRange, 2, (none), [], kX10_checkRange)
theorem okX10_checkRange : x_ok mX10_checkRange := ⟨by decide +kernel, rfl, by decide⟩
def kX10_checkedValues : XK := [(0, .aload_n 0, 1, 0), (1, .iload_n 1, 2, 0), (2, .invokevirtual 159, 5, 0), (5, .iconst 4, 6, 0), (6, .newarray .int, 8, 0), (8, .dup, 9, 0), (9, .iconst 0, 10, 0), (10, .iload_n 2, 11, 0), (11, .iastore, 12, 0), (12, .dup, 13, 0), (13, .iconst 1, 14, 0), (14, .iload_n 3, 15, 0), (15, .iastore, 16, 0), (16, .dup, 17, 0), (17, .iconst 2, 18, 0), (18, .iload 4, 20, 0), (20, .iastore, 21, 0), (21, .dup, 22, 0), (22, .iconst 3, 23, 0), (23, .iload 5, 25, 0), (25, .iastore, 26, 0), (26, .astore 6, 28, 0), (28, .aload_n 0, 29, 0), (29, .invokevirtual 71, 32, 0), (32, .getfield 75, 35, 0), (35, .getfield 79, 38, 0), (38, .iload_n 1, 39, 0), (39, .invokevirtual 164, 42, 0), (42, .checkcast 168, 45, 0), (45, .getfield 170, 48, 0), (48, .astore 7, 50, 0), (50, .iconst 0, 51, 0), (51, .istore 8, 53, 0), (53, .iload 8, 55, 0), (55, .iconst 4, 56, 0), (56, .if_icmp .ge 22, 59, 78), (59, .aload 6, 61, 0), (61, .iload 8, 63, 0), (63, .iaload, 64, 0), (64, .aload 7, 66, 0), (66, .iload 8, 68, 0), (68, .iaload, 69, 0), (69, .invokestatic 241, 72, 0), (72, .iinc 8 1, 75, 0), (75, .goto (-22), 78, 53), (78, .aload 6, 80, 0), (80, .areturn, 81, 0)]
def mX10_checkedValues : XMI := (RX10, yX10_checkedValues, cX10_checkedValues, 9, (some (FieldType.array FieldType.int)), [], kX10_checkedValues)
theorem okX10_checkedValues : x_ok mX10_checkedValues := ⟨by decide +kernel, rfl, by decide⟩
def kX10_greatestOf : XK := [(0, .iload_n 0, 1, 0), (1, .tableswitch 37 0 2 #[27, 31, 35], 28, 0), (28, .sipush 9999, 31, 0), (31, .ireturn, 32, 0), (32, .sipush 999, 35, 0), (35, .ireturn, 36, 0), (36, .iconst 1, 37, 0), (37, .ireturn, 38, 0), (38, .iconst 0, 39, 0), (39, .ireturn, 40, 0)]
def mX10_greatestOf : XMI := (RX10, yX10_greatestOf, cX10_greatestOf, 1, (some FieldType.int), [], kX10_greatestOf)
theorem okX10_greatestOf : x_ok mX10_greatestOf := ⟨by decide +kernel, rfl, by decide⟩
def kX10_nameIn : XK := [(0, .iload_n 1, 1, 0), (1, .ifCond .lt 17, 4, 18), (4, .iload_n 2, 5, 0), (5, .aload_n 0, 6, 0), (6, .arraylength, 7, 0), (7, .if_icmp .gt 11, 10, 18), (10, .iload_n 2, 11, 0), (11, .iload_n 1, 12, 0), (12, .isub, 13, 0), (13, .bipush 8, 15, 0), (15, .if_icmp .le 5, 18, 20), (18, .lconst 0, 19, 0), (19, .lreturn, 20, 0), (20, .lconst 0, 21, 0), (21, .lstore_n 3, 22, 0), (22, .iload_n 1, 23, 0), (23, .istore 5, 25, 0), (25, .iload 5, 27, 0), (27, .iload_n 2, 28, 0), (28, .if_icmp .ge 39, 31, 67), (31, .aload_n 0, 32, 0), (32, .iload 5, 34, 0), (34, .baload, 35, 0), (35, .invokestatic 320, 38, 0), (38, .ifCond .ne 5, 41, 43), (41, .lconst 0, 42, 0), (42, .lreturn, 43, 0), (43, .ldc2_w 324, 46, 0), (46, .lload_n 3, 47, 0), (47, .lmul, 48, 0), (48, .aload_n 0, 49, 0), (49, .iload 5, 51, 0), (51, .baload, 52, 0), (52, .i2l, 53, 0), (53, .ladd, 54, 0), (54, .ldc2_w 326, 57, 0), (57, .lsub, 58, 0), (58, .lconst 1, 59, 0), (59, .ladd, 60, 0), (60, .lstore_n 3, 61, 0), (61, .iinc 5 1, 64, 0), (64, .goto (-39), 67, 25), (67, .lload_n 3, 68, 0), (68, .lreturn, 69, 0)]
def mX10_nameIn : XMI := (RX10, yX10_nameIn, cX10_nameIn, 6, (some FieldType.long), [], kX10_nameIn)
theorem okX10_nameIn : x_ok mX10_nameIn := ⟨by decide +kernel, rfl, by decide⟩
def kX10_nameOf : XK := [(0, .lconst 0, 1, 0), (1, .lstore_n 1, 2, 0), (2, .iconst 0, 3, 0), (3, .istore_n 3, 4, 0), (4, .iload_n 3, 5, 0), (5, .aload_n 0, 6, 0), (6, .invokevirtual 328, 9, 0), (9, .if_icmp .ge 28, 12, 37), (12, .ldc2_w 324, 15, 0), (15, .lload_n 1, 16, 0), (16, .lmul, 17, 0), (17, .aload_n 0, 18, 0), (18, .iload_n 3, 19, 0), (19, .invokevirtual 333, 22, 0), (22, .i2l, 23, 0), (23, .ladd, 24, 0), (24, .ldc2_w 326, 27, 0), (27, .lsub, 28, 0), (28, .lconst 1, 29, 0), (29, .ladd, 30, 0), (30, .lstore_n 1, 31, 0), (31, .iinc 3 1, 34, 0), (34, .goto (-30), 37, 4), (37, .lload_n 1, 38, 0), (38, .lreturn, 39, 0)]
def mX10_nameOf : XMI := (RX10, yX10_nameOf, cX10_nameOf, 4, (some FieldType.long), [], kX10_nameOf)
theorem okX10_nameOf : x_ok mX10_nameOf := ⟨by decide +kernel, rfl, by decide⟩
def kX10_isLetter : XK := [(0, .iload_n 0, 1, 0), (1, .bipush 97, 3, 0), (3, .if_icmp .lt 13, 6, 16), (6, .iload_n 0, 7, 0), (7, .bipush 122, 9, 0), (9, .if_icmp .gt 7, 12, 16), (12, .iconst 1, 13, 0), (13, .goto 4, 16, 17), (16, .iconst 0, 17, 0), (17, .ireturn, 18, 0)]
def mX10_isLetter : XMI := (RX10, yX10_isLetter, cX10_isLetter, 1, (some FieldType.boolean), [], kX10_isLetter)
theorem okX10_isLetter : x_ok mX10_isLetter := ⟨by decide +kernel, rfl, by decide⟩
def kX10_isDigit : XK := [(0, .iload_n 0, 1, 0), (1, .bipush 48, 3, 0), (3, .if_icmp .lt 13, 6, 16), (6, .iload_n 0, 7, 0), (7, .bipush 57, 9, 0), (9, .if_icmp .gt 7, 12, 16), (12, .iconst 1, 13, 0), (13, .goto 4, 16, 17), (16, .iconst 0, 17, 0), (17, .ireturn, 18, 0)]
def mX10_isDigit : XMI := (RX10, yX10_isDigit, cX10_isDigit, 1, (some FieldType.boolean), [], kX10_isDigit)
theorem okX10_isDigit : x_ok mX10_isDigit := ⟨by decide +kernel, rfl, by decide⟩
end
section
/-! ===== rows of methods, by program ===== -/
def kL_load : XK := [(0, .aload_n 2, 1, 0), (1, .iconst 0, 2, 0), (2, .aload_n 0, 3, 0), (3, .iload_n 1, 4, 0), (4, .invokevirtual 7, 7, 0), (7, .i2l, 8, 0), (8, .lastore, 9, 0), (9, .goto 6, 12, 15), (12, .astore_n 3, 13, 0), (13, .iconst 1, 14, 0), (14, .ireturn, 15, 0), (15, .iconst 0, 16, 0), (16, .ireturn, 17, 0)]
def mL_load : XMI := (RL, yL_load, cL_load, 4, (some FieldType.int), [(0, 9, 12, 13)], kL_load)
theorem okL_load : x_ok mL_load := ⟨by decide +kernel, rfl, by decide⟩
def kL_count : XK := [(0, .aload_n 2, 1, 0), (1, .iconst 0, 2, 0), (2, .aload_n 0, 3, 0), (3, .iload_n 1, 4, 0), (4, .invokevirtual 15, 7, 0), (7, .i2l, 8, 0), (8, .lastore, 9, 0), (9, .goto 6, 12, 15), (12, .astore_n 3, 13, 0), (13, .iconst 1, 14, 0), (14, .ireturn, 15, 0), (15, .iconst 0, 16, 0), (16, .ireturn, 17, 0)]
def mL_count : XMI := (RL, yL_count, cL_count, 4, (some FieldType.int), [(0, 9, 12, 13)], kL_count)
theorem okL_count : x_ok mL_count := ⟨by decide +kernel, rfl, by decide⟩
def kL_column : XK := [(0, .aload_n 3, 1, 0), (1, .iconst 0, 2, 0), (2, .aload_n 0, 3, 0), (3, .iload_n 1, 4, 0), (4, .iload_n 2, 5, 0), (5, .invokevirtual 18, 8, 0), (8, .i2l, 9, 0), (9, .lastore, 10, 0), (10, .goto 11, 13, 21), (13, .astore 4, 15, 0), (15, .iconst 1, 16, 0), (16, .ireturn, 17, 0), (17, .astore 4, 19, 0), (19, .iconst 2, 20, 0), (20, .ireturn, 21, 0), (21, .iconst 0, 22, 0), (22, .ireturn, 23, 0)]
def mL_column : XMI := (RL, yL_column, cL_column, 5, (some FieldType.int), [(0, 10, 13, 22), (0, 10, 17, 13)], kL_column)
theorem okL_column : x_ok mL_column := ⟨by decide +kernel, rfl, by decide⟩
def kL_value : XK := [(0, .aload_n 3, 1, 0), (1, .iconst 0, 2, 0), (2, .aload_n 0, 3, 0), (3, .iload_n 1, 4, 0), (4, .iload_n 2, 5, 0), (5, .invokevirtual 24, 8, 0), (8, .i2l, 9, 0), (9, .lastore, 10, 0), (10, .goto 7, 13, 17), (13, .astore 4, 15, 0), (15, .iconst 1, 16, 0), (16, .ireturn, 17, 0), (17, .iconst 0, 18, 0), (18, .ireturn, 19, 0)]
def mL_value : XMI := (RL, yL_value, cL_value, 5, (some FieldType.int), [(0, 10, 13, 22)], kL_value)
theorem okL_value : x_ok mL_value := ⟨by decide +kernel, rfl, by decide⟩
def kL_named : XK := [(0, .aload_n 2, 1, 0), (1, .iconst 0, 2, 0), (2, .aload_n 0, 3, 0), (3, .iload_n 1, 4, 0), (4, .invokevirtual 27, 7, 0), (7, .i2l, 8, 0), (8, .lastore, 9, 0), (9, .goto 6, 12, 15), (12, .astore_n 3, 13, 0), (13, .iconst 1, 14, 0), (14, .ireturn, 15, 0), (15, .iconst 0, 16, 0), (16, .ireturn, 17, 0)]
def mL_named : XMI := (RL, yL_named, cL_named, 4, (some FieldType.int), [(0, 9, 12, 13)], kL_named)
theorem okL_named : x_ok mL_named := ⟨by decide +kernel, rfl, by decide⟩
def kL_hole : XK := [(0, .aload_n 3, 1, 0), (1, .iconst 0, 2, 0), (2, .aload_n 0, 3, 0), (3, .iload_n 1, 4, 0), (4, .iload_n 2, 5, 0), (5, .invokevirtual 30, 8, 0), (8, .i2l, 9, 0), (9, .lastore, 10, 0), (10, .goto 11, 13, 21), (13, .astore 4, 15, 0), (15, .iconst 1, 16, 0), (16, .ireturn, 17, 0), (17, .astore 4, 19, 0), (19, .iconst 2, 20, 0), (20, .ireturn, 21, 0), (21, .iconst 0, 22, 0), (22, .ireturn, 23, 0)]
def mL_hole : XMI := (RL, yL_hole, cL_hole, 5, (some FieldType.int), [(0, 10, 13, 22), (0, 10, 17, 13)], kL_hole)
theorem okL_hole : x_ok mL_hole := ⟨by decide +kernel, rfl, by decide⟩
def kL_statement : XK := [(0, .aload_n 3, 1, 0), (1, .iconst 0, 2, 0), (2, .aload_n 0, 3, 0), (3, .iload_n 1, 4, 0), (4, .iload_n 2, 5, 0), (5, .invokevirtual 33, 8, 0), (8, .i2l, 9, 0), (9, .lastore, 10, 0), (10, .goto 11, 13, 21), (13, .astore 4, 15, 0), (15, .iconst 1, 16, 0), (16, .ireturn, 17, 0), (17, .astore 4, 19, 0), (19, .iconst 2, 20, 0), (20, .ireturn, 21, 0), (21, .iconst 0, 22, 0), (22, .ireturn, 23, 0)]
def mL_statement : XMI := (RL, yL_statement, cL_statement, 5, (some FieldType.int), [(0, 10, 13, 22), (0, 10, 17, 13)], kL_statement)
theorem okL_statement : x_ok mL_statement := ⟨by decide +kernel, rfl, by decide⟩
def kL_learned : XK := [(0, .aload_n 3, 1, 0), (1, .iconst 0, 2, 0), (2, .aload_n 0, 3, 0), (3, .iload_n 1, 4, 0), (4, .iload_n 2, 5, 0), (5, .invokevirtual 36, 8, 0), (8, .i2l, 9, 0), (9, .lastore, 10, 0), (10, .goto 7, 13, 17), (13, .astore 4, 15, 0), (15, .iconst 1, 16, 0), (16, .ireturn, 17, 0), (17, .iconst 0, 18, 0), (18, .ireturn, 19, 0)]
def mL_learned : XMI := (RL, yL_learned, cL_learned, 5, (some FieldType.int), [(0, 10, 13, 22)], kL_learned)
theorem okL_learned : x_ok mL_learned := ⟨by decide +kernel, rfl, by decide⟩
def kL_kept : XK := [(0, .aload_n 2, 1, 0), (1, .iconst 0, 2, 0), (2, .aload_n 0, 3, 0), (3, .iload_n 1, 4, 0), (4, .invokevirtual 39, 7, 0), (7, .i2l, 8, 0), (8, .lastore, 9, 0), (9, .goto 6, 12, 15), (12, .astore_n 3, 13, 0), (13, .iconst 1, 14, 0), (14, .ireturn, 15, 0), (15, .iconst 0, 16, 0), (16, .ireturn, 17, 0)]
def mL_kept : XMI := (RL, yL_kept, cL_kept, 4, (some FieldType.int), [(0, 9, 12, 22)], kL_kept)
theorem okL_kept : x_ok mL_kept := ⟨by decide +kernel, rfl, by decide⟩
def kL_genericCost : XK := [(0, .aload_n 3, 1, 0), (1, .iconst 0, 2, 0), (2, .aload_n 0, 3, 0), (3, .iload_n 1, 4, 0), (4, .iload_n 2, 5, 0), (5, .invokevirtual 42, 8, 0), (8, .i2l, 9, 0), (9, .lastore, 10, 0), (10, .goto 11, 13, 21), (13, .astore 4, 15, 0), (15, .iconst 1, 16, 0), (16, .ireturn, 17, 0), (17, .astore 4, 19, 0), (19, .iconst 2, 20, 0), (20, .ireturn, 21, 0), (21, .iconst 0, 22, 0), (22, .ireturn, 23, 0)]
def mL_genericCost : XMI := (RL, yL_genericCost, cL_genericCost, 5, (some FieldType.int), [(0, 10, 13, 22), (0, 10, 17, 13)], kL_genericCost)
theorem okL_genericCost : x_ok mL_genericCost := ⟨by decide +kernel, rfl, by decide⟩
def kL_special : XK := [(0, .aload 6, 2, 0), (2, .iconst 0, 3, 0), (3, .aload_n 0, 4, 0), (4, .iload_n 1, 5, 0), (5, .iload_n 2, 6, 0), (6, .iload_n 3, 7, 0), (7, .iload 4, 9, 0), (9, .iload 5, 11, 0), (11, .invokevirtual 45, 14, 0), (14, .i2l, 15, 0), (15, .lastore, 16, 0), (16, .goto 11, 19, 27), (19, .astore 7, 21, 0), (21, .iconst 1, 22, 0), (22, .ireturn, 23, 0), (23, .astore 7, 25, 0), (25, .iconst 2, 26, 0), (26, .ireturn, 27, 0), (27, .iconst 0, 28, 0), (28, .ireturn, 29, 0)]
def mL_special : XMI := (RL, yL_special, cL_special, 8, (some FieldType.int), [(0, 16, 19, 22), (0, 16, 23, 13)], kL_special)
theorem okL_special : x_ok mL_special := ⟨by decide +kernel, rfl, by decide⟩
def kL_specialCost : XK := [(0, .aload 7, 2, 0), (2, .iconst 0, 3, 0), (3, .aload_n 0, 4, 0), (4, .iload_n 1, 5, 0), (5, .iload_n 2, 6, 0), (6, .iload_n 3, 7, 0), (7, .iload 4, 9, 0), (9, .iload 5, 11, 0), (11, .iload 6, 13, 0), (13, .invokevirtual 49, 16, 0), (16, .i2l, 17, 0), (17, .lastore, 18, 0), (18, .goto 11, 21, 29), (21, .astore 8, 23, 0), (23, .iconst 1, 24, 0), (24, .ireturn, 25, 0), (25, .astore 8, 27, 0), (27, .iconst 2, 28, 0), (28, .ireturn, 29, 0), (29, .iconst 0, 30, 0), (30, .ireturn, 31, 0)]
def mL_specialCost : XMI := (RL, yL_specialCost, cL_specialCost, 9, (some FieldType.int), [(0, 18, 21, 22), (0, 18, 25, 13)], kL_specialCost)
theorem okL_specialCost : x_ok mL_specialCost := ⟨by decide +kernel, rfl, by decide⟩
def kL_wouldUse : XK := [(0, .aload 6, 2, 0), (2, .iconst 0, 3, 0), (3, .aload_n 0, 4, 0), (4, .iload_n 1, 5, 0), (5, .iload_n 2, 6, 0), (6, .iload_n 3, 7, 0), (7, .iload 4, 9, 0), (9, .iload 5, 11, 0), (11, .invokevirtual 53, 14, 0), (14, .i2l, 15, 0), (15, .lastore, 16, 0), (16, .goto 11, 19, 27), (19, .astore 7, 21, 0), (21, .iconst 1, 22, 0), (22, .ireturn, 23, 0), (23, .astore 7, 25, 0), (25, .iconst 2, 26, 0), (26, .ireturn, 27, 0), (27, .iconst 0, 28, 0), (28, .ireturn, 29, 0)]
def mL_wouldUse : XMI := (RL, yL_wouldUse, cL_wouldUse, 8, (some FieldType.int), [(0, 16, 19, 22), (0, 16, 23, 13)], kL_wouldUse)
theorem okL_wouldUse : x_ok mL_wouldUse := ⟨by decide +kernel, rfl, by decide⟩
def kL_rows : XK := [(0, .aload 6, 2, 0), (2, .iconst 0, 3, 0), (3, .aload_n 0, 4, 0), (4, .iload_n 1, 5, 0), (5, .iload_n 2, 6, 0), (6, .iload_n 3, 7, 0), (7, .iload 4, 9, 0), (9, .iload 5, 11, 0), (11, .invokevirtual 56, 14, 0), (14, .lastore, 15, 0), (15, .goto 11, 18, 26), (18, .astore 7, 20, 0), (20, .iconst 1, 21, 0), (21, .ireturn, 22, 0), (22, .astore 7, 24, 0), (24, .iconst 2, 25, 0), (25, .ireturn, 26, 0), (26, .iconst 0, 27, 0), (27, .ireturn, 28, 0)]
def mL_rows : XMI := (RL, yL_rows, cL_rows, 8, (some FieldType.int), [(0, 15, 18, 22), (0, 15, 22, 13)], kL_rows)
theorem okL_rows : x_ok mL_rows := ⟨by decide +kernel, rfl, by decide⟩
def kL_run : XK := [(0, .aload 6, 2, 0), (2, .iconst 0, 3, 0), (3, .aload_n 0, 4, 0), (4, .iload_n 1, 5, 0), (5, .iload_n 2, 6, 0), (6, .iload_n 3, 7, 0), (7, .iload 4, 9, 0), (9, .iload 5, 11, 0), (11, .invokevirtual 60, 14, 0), (14, .i2l, 15, 0), (15, .lastore, 16, 0), (16, .goto 11, 19, 27), (19, .astore 7, 21, 0), (21, .iconst 1, 22, 0), (22, .ireturn, 23, 0), (23, .astore 7, 25, 0), (25, .iconst 2, 26, 0), (26, .ireturn, 27, 0), (27, .iconst 0, 28, 0), (28, .ireturn, 29, 0)]
def mL_run : XMI := (RL, yL_run, cL_run, 8, (some FieldType.int), [(0, 16, 19, 22), (0, 16, 23, 13)], kL_run)
theorem okL_run : x_ok mL_run := ⟨by decide +kernel, rfl, by decide⟩
def kL_insert : XK := [(0, .aload 6, 2, 0), (2, .iconst 0, 3, 0), (3, .aload_n 0, 4, 0), (4, .iload_n 1, 5, 0), (5, .iload_n 2, 6, 0), (6, .iload_n 3, 7, 0), (7, .iload 4, 9, 0), (9, .iload 5, 11, 0), (11, .invokevirtual 63, 14, 0), (14, .i2l, 15, 0), (15, .lastore, 16, 0), (16, .goto 11, 19, 27), (19, .astore 7, 21, 0), (21, .iconst 1, 22, 0), (22, .ireturn, 23, 0), (23, .astore 7, 25, 0), (25, .iconst 2, 26, 0), (26, .ireturn, 27, 0), (27, .iconst 0, 28, 0), (28, .ireturn, 29, 0)]
def mL_insert : XMI := (RL, yL_insert, cL_insert, 8, (some FieldType.int), [(0, 16, 19, 13), (0, 16, 23, 66)], kL_insert)
theorem okL_insert : x_ok mL_insert := ⟨by decide +kernel, rfl, by decide⟩
def kL_delete : XK := [(0, .aload_n 2, 1, 0), (1, .iconst 0, 2, 0), (2, .aload_n 0, 3, 0), (3, .iload_n 1, 4, 0), (4, .invokevirtual 68, 7, 0), (7, .i2l, 8, 0), (8, .lastore, 9, 0), (9, .goto 6, 12, 15), (12, .astore_n 3, 13, 0), (13, .iconst 1, 14, 0), (14, .ireturn, 15, 0), (15, .iconst 0, 16, 0), (16, .ireturn, 17, 0)]
def mL_delete : XMI := (RL, yL_delete, cL_delete, 4, (some FieldType.int), [(0, 9, 12, 22)], kL_delete)
theorem okL_delete : x_ok mL_delete := ⟨by decide +kernel, rfl, by decide⟩
def kL_setIndex : XK := [(0, .aload_n 3, 1, 0), (1, .iconst 0, 2, 0), (2, .aload_n 0, 3, 0), (3, .iload_n 1, 4, 0), (4, .iload_n 2, 5, 0), (5, .invokevirtual 71, 8, 0), (8, .ifCond .eq 7, 11, 15), (11, .lconst 1, 12, 0), (12, .goto 4, 15, 16), (15, .lconst 0, 16, 0), (16, .lastore, 17, 0), (17, .goto 7, 20, 24), (20, .astore 4, 22, 0), (22, .iconst 1, 23, 0), (23, .ireturn, 24, 0), (24, .iconst 0, 25, 0), (25, .ireturn, 26, 0)]
def mL_setIndex : XMI := (RL, yL_setIndex, cL_setIndex, 5, (some FieldType.int), [(0, 17, 20, 22)], kL_setIndex)
theorem okL_setIndex : x_ok mL_setIndex := ⟨by decide +kernel, rfl, by decide⟩
def kL_law_0 : XK := [(0, .new 8, 3, 0), (3, .dup, 4, 0), (4, .invokespecial 75, 7, 0), (7, .astore_n 1, 8, 0), (8, .new 76, 11, 0), (11, .dup, 12, 0), (12, .invokespecial 78, 15, 0), (15, .astore_n 2, 16, 0), (16, .iconst 1, 17, 0), (17, .newarray .long, 19, 0), (19, .astore_n 3, 20, 0), (20, .iconst 0, 21, 0), (21, .istore 4, 23, 0), (23, .iload 4, 25, 0), (25, .aload_n 0, 26, 0), (26, .arraylength, 27, 0), (27, .bipush 7, 29, 0), (29, .isub, 30, 0), (30, .if_icmp .gt 1666, 33, 1696), (33, .aload_n 0, 34, 0), (34, .iload 4, 36, 0), (36, .iaload, 37, 0), (37, .bipush 31, 39, 0), (39, .iand, 40, 0), (40, .tableswitch 1650 0 22 #[108, 181, 237, 250, 306, 374, 442, 498, 566, 634, 702, 758, 826, 930, 1048, 1152, 1255, 1359, 1463, 1519, 1610, 1623, 1636], 148, 0), (148, .aload_n 1, 149, 0), (149, .aload_n 0, 150, 0), (150, .iload 4, 152, 0), (152, .iconst 1, 153, 0), (153, .iadd, 154, 0), (154, .iaload, 155, 0), (155, .aload_n 0, 156, 0), (156, .iload 4, 158, 0), (158, .iconst 2, 159, 0), (159, .iadd, 160, 0), (160, .iaload, 161, 0), (161, .aload_n 0, 162, 0), (162, .iload 4, 164, 0), (164, .iconst 3, 165, 0), (165, .iadd, 166, 0)]
theorem okL_law_0 : x_okK cL_law kL_law_0 = true := by decide +kernel
def kL_law_1 : XK := [(166, .iaload, 167, 0), (167, .aload_n 0, 168, 0), (168, .iload 4, 170, 0), (170, .iconst 4, 171, 0), (171, .iadd, 172, 0), (172, .iaload, 173, 0), (173, .aload_n 0, 174, 0), (174, .iload 4, 176, 0), (176, .iconst 5, 177, 0), (177, .iadd, 178, 0), (178, .iaload, 179, 0), (179, .invokevirtual 79, 182, 0), (182, .aload_n 2, 183, 0), (183, .aload_n 0, 184, 0), (184, .iload 4, 186, 0), (186, .iconst 1, 187, 0), (187, .iadd, 188, 0), (188, .iaload, 189, 0), (189, .aload_n 0, 190, 0), (190, .iload 4, 192, 0), (192, .iconst 2, 193, 0), (193, .iadd, 194, 0), (194, .iaload, 195, 0), (195, .aload_n 0, 196, 0), (196, .iload 4, 198, 0), (198, .iconst 3, 199, 0), (199, .iadd, 200, 0), (200, .iaload, 201, 0), (201, .aload_n 0, 202, 0), (202, .iload 4, 204, 0), (204, .iconst 4, 205, 0), (205, .iadd, 206, 0), (206, .iaload, 207, 0), (207, .aload_n 0, 208, 0), (208, .iload 4, 210, 0), (210, .iconst 5, 211, 0), (211, .iadd, 212, 0), (212, .iaload, 213, 0), (213, .invokevirtual 82, 216, 0), (216, .if_icmp .eq 1474, 219, 1690)]
theorem okL_law_1 : x_okK cL_law kL_law_1 = true := by decide +kernel
def kL_law_2 : XK := [(219, .iconst 0, 220, 0), (220, .ireturn, 221, 0), (221, .aload_n 1, 222, 0), (222, .aload_n 0, 223, 0), (223, .iload 4, 225, 0), (225, .iconst 1, 226, 0), (226, .iadd, 227, 0), (227, .iaload, 228, 0), (228, .aload_n 3, 229, 0), (229, .invokestatic 83, 232, 0), (232, .istore 5, 234, 0), (234, .aload_n 2, 235, 0), (235, .aload_n 0, 236, 0), (236, .iload 4, 238, 0), (238, .iconst 1, 239, 0), (239, .iadd, 240, 0), (240, .iaload, 241, 0), (241, .invokevirtual 88, 244, 0), (244, .istore 6, 246, 0), (246, .aload_n 2, 247, 0), (247, .invokevirtual 89, 250, 0), (250, .iload 5, 252, 0), (252, .if_icmp .eq 5, 255, 257), (255, .iconst 0, 256, 0), (256, .ireturn, 257, 0), (257, .iload 5, 259, 0), (259, .ifCond .ne 15, 262, 274), (262, .aload_n 3, 263, 0), (263, .iconst 0, 264, 0), (264, .laload, 265, 0), (265, .iload 6, 267, 0), (267, .i2l, 268, 0), (268, .lcmp, 269, 0), (269, .ifCond .eq 5, 272, 274), (272, .iconst 0, 273, 0), (273, .ireturn, 274, 0), (274, .goto 1416, 277, 1690), (277, .aload_n 1, 278, 0), (278, .invokevirtual 93, 281, 0), (281, .aload_n 2, 282, 0)]
theorem okL_law_2 : x_okK cL_law kL_law_2 = true := by decide +kernel
def kL_law_3 : XK := [(282, .invokevirtual 96, 285, 0), (285, .if_icmp .eq 1405, 288, 1690), (288, .iconst 0, 289, 0), (289, .ireturn, 290, 0), (290, .aload_n 1, 291, 0), (291, .aload_n 0, 292, 0), (292, .iload 4, 294, 0), (294, .iconst 1, 295, 0), (295, .iadd, 296, 0), (296, .iaload, 297, 0), (297, .aload_n 3, 298, 0), (298, .invokestatic 97, 301, 0), (301, .istore 5, 303, 0), (303, .aload_n 2, 304, 0), (304, .aload_n 0, 305, 0), (305, .iload 4, 307, 0), (307, .iconst 1, 308, 0), (308, .iadd, 309, 0), (309, .iaload, 310, 0), (310, .invokevirtual 99, 313, 0), (313, .istore 6, 315, 0), (315, .aload_n 2, 316, 0), (316, .invokevirtual 89, 319, 0), (319, .iload 5, 321, 0), (321, .if_icmp .eq 5, 324, 326), (324, .iconst 0, 325, 0), (325, .ireturn, 326, 0), (326, .iload 5, 328, 0), (328, .ifCond .ne 15, 331, 343), (331, .aload_n 3, 332, 0), (332, .iconst 0, 333, 0), (333, .laload, 334, 0), (334, .iload 6, 336, 0), (336, .i2l, 337, 0), (337, .lcmp, 338, 0), (338, .ifCond .eq 5, 341, 343), (341, .iconst 0, 342, 0), (342, .ireturn, 343, 0), (343, .goto 1347, 346, 1690), (346, .aload_n 1, 347, 0)]
theorem okL_law_3 : x_okK cL_law kL_law_3 = true := by decide +kernel
def kL_law_4 : XK := [(347, .aload_n 0, 348, 0), (348, .iload 4, 350, 0), (350, .iconst 1, 351, 0), (351, .iadd, 352, 0), (352, .iaload, 353, 0), (353, .aload_n 0, 354, 0), (354, .iload 4, 356, 0), (356, .iconst 2, 357, 0), (357, .iadd, 358, 0), (358, .iaload, 359, 0), (359, .aload_n 3, 360, 0), (360, .invokestatic 100, 363, 0), (363, .istore 5, 365, 0), (365, .aload_n 2, 366, 0), (366, .aload_n 0, 367, 0), (367, .iload 4, 369, 0), (369, .iconst 1, 370, 0), (370, .iadd, 371, 0), (371, .iaload, 372, 0), (372, .aload_n 0, 373, 0), (373, .iload 4, 375, 0), (375, .iconst 2, 376, 0), (376, .iadd, 377, 0), (377, .iaload, 378, 0), (378, .invokevirtual 103, 381, 0), (381, .istore 6, 383, 0), (383, .aload_n 2, 384, 0), (384, .invokevirtual 89, 387, 0), (387, .iload 5, 389, 0), (389, .if_icmp .eq 5, 392, 394), (392, .iconst 0, 393, 0), (393, .ireturn, 394, 0), (394, .iload 5, 396, 0), (396, .ifCond .ne 15, 399, 411), (399, .aload_n 3, 400, 0), (400, .iconst 0, 401, 0), (401, .laload, 402, 0), (402, .iload 6, 404, 0), (404, .i2l, 405, 0), (405, .lcmp, 406, 0)]
theorem okL_law_4 : x_okK cL_law kL_law_4 = true := by decide +kernel
def kL_law_5 : XK := [(406, .ifCond .eq 5, 409, 411), (409, .iconst 0, 410, 0), (410, .ireturn, 411, 0), (411, .goto 1279, 414, 1690), (414, .aload_n 1, 415, 0), (415, .aload_n 0, 416, 0), (416, .iload 4, 418, 0), (418, .iconst 1, 419, 0), (419, .iadd, 420, 0), (420, .iaload, 421, 0), (421, .aload_n 0, 422, 0), (422, .iload 4, 424, 0), (424, .iconst 2, 425, 0), (425, .iadd, 426, 0), (426, .iaload, 427, 0), (427, .aload_n 3, 428, 0), (428, .invokestatic 104, 431, 0), (431, .istore 5, 433, 0), (433, .aload_n 2, 434, 0), (434, .aload_n 0, 435, 0), (435, .iload 4, 437, 0), (437, .iconst 1, 438, 0), (438, .iadd, 439, 0), (439, .iaload, 440, 0), (440, .aload_n 0, 441, 0), (441, .iload 4, 443, 0), (443, .iconst 2, 444, 0), (444, .iadd, 445, 0), (445, .iaload, 446, 0), (446, .invokevirtual 106, 449, 0), (449, .istore 6, 451, 0), (451, .aload_n 2, 452, 0), (452, .invokevirtual 89, 455, 0), (455, .iload 5, 457, 0), (457, .if_icmp .eq 5, 460, 462), (460, .iconst 0, 461, 0), (461, .ireturn, 462, 0), (462, .iload 5, 464, 0), (464, .ifCond .ne 15, 467, 479), (467, .aload_n 3, 468, 0)]
theorem okL_law_5 : x_okK cL_law kL_law_5 = true := by decide +kernel
def kL_law_6 : XK := [(468, .iconst 0, 469, 0), (469, .laload, 470, 0), (470, .iload 6, 472, 0), (472, .i2l, 473, 0), (473, .lcmp, 474, 0), (474, .ifCond .eq 5, 477, 479), (477, .iconst 0, 478, 0), (478, .ireturn, 479, 0), (479, .goto 1211, 482, 1690), (482, .aload_n 1, 483, 0), (483, .aload_n 0, 484, 0), (484, .iload 4, 486, 0), (486, .iconst 1, 487, 0), (487, .iadd, 488, 0), (488, .iaload, 489, 0), (489, .aload_n 3, 490, 0), (490, .invokestatic 107, 493, 0), (493, .istore 5, 495, 0), (495, .aload_n 2, 496, 0), (496, .aload_n 0, 497, 0), (497, .iload 4, 499, 0), (499, .iconst 1, 500, 0), (500, .iadd, 501, 0), (501, .iaload, 502, 0), (502, .invokevirtual 109, 505, 0), (505, .istore 6, 507, 0), (507, .aload_n 2, 508, 0), (508, .invokevirtual 89, 511, 0), (511, .iload 5, 513, 0), (513, .if_icmp .eq 5, 516, 518), (516, .iconst 0, 517, 0), (517, .ireturn, 518, 0), (518, .iload 5, 520, 0), (520, .ifCond .ne 15, 523, 535), (523, .aload_n 3, 524, 0), (524, .iconst 0, 525, 0), (525, .laload, 526, 0), (526, .iload 6, 528, 0), (528, .i2l, 529, 0), (529, .lcmp, 530, 0)]
theorem okL_law_6 : x_okK cL_law kL_law_6 = true := by decide +kernel
def kL_law_7 : XK := [(530, .ifCond .eq 5, 533, 535), (533, .iconst 0, 534, 0), (534, .ireturn, 535, 0), (535, .goto 1155, 538, 1690), (538, .aload_n 1, 539, 0), (539, .aload_n 0, 540, 0), (540, .iload 4, 542, 0), (542, .iconst 1, 543, 0), (543, .iadd, 544, 0), (544, .iaload, 545, 0), (545, .aload_n 0, 546, 0), (546, .iload 4, 548, 0), (548, .iconst 2, 549, 0), (549, .iadd, 550, 0), (550, .iaload, 551, 0), (551, .aload_n 3, 552, 0), (552, .invokestatic 110, 555, 0), (555, .istore 5, 557, 0), (557, .aload_n 2, 558, 0), (558, .aload_n 0, 559, 0), (559, .iload 4, 561, 0), (561, .iconst 1, 562, 0), (562, .iadd, 563, 0), (563, .iaload, 564, 0), (564, .aload_n 0, 565, 0), (565, .iload 4, 567, 0), (567, .iconst 2, 568, 0), (568, .iadd, 569, 0), (569, .iaload, 570, 0), (570, .invokevirtual 112, 573, 0), (573, .istore 6, 575, 0), (575, .aload_n 2, 576, 0), (576, .invokevirtual 89, 579, 0), (579, .iload 5, 581, 0), (581, .if_icmp .eq 5, 584, 586), (584, .iconst 0, 585, 0), (585, .ireturn, 586, 0), (586, .iload 5, 588, 0), (588, .ifCond .ne 15, 591, 603), (591, .aload_n 3, 592, 0)]
theorem okL_law_7 : x_okK cL_law kL_law_7 = true := by decide +kernel
def kL_law_8 : XK := [(592, .iconst 0, 593, 0), (593, .laload, 594, 0), (594, .iload 6, 596, 0), (596, .i2l, 597, 0), (597, .lcmp, 598, 0), (598, .ifCond .eq 5, 601, 603), (601, .iconst 0, 602, 0), (602, .ireturn, 603, 0), (603, .goto 1087, 606, 1690), (606, .aload_n 1, 607, 0), (607, .aload_n 0, 608, 0), (608, .iload 4, 610, 0), (610, .iconst 1, 611, 0), (611, .iadd, 612, 0), (612, .iaload, 613, 0), (613, .aload_n 0, 614, 0), (614, .iload 4, 616, 0), (616, .iconst 2, 617, 0), (617, .iadd, 618, 0), (618, .iaload, 619, 0), (619, .aload_n 3, 620, 0), (620, .invokestatic 113, 623, 0), (623, .istore 5, 625, 0), (625, .aload_n 2, 626, 0), (626, .aload_n 0, 627, 0), (627, .iload 4, 629, 0), (629, .iconst 1, 630, 0), (630, .iadd, 631, 0), (631, .iaload, 632, 0), (632, .aload_n 0, 633, 0), (633, .iload 4, 635, 0), (635, .iconst 2, 636, 0), (636, .iadd, 637, 0), (637, .iaload, 638, 0), (638, .invokevirtual 115, 641, 0), (641, .istore 6, 643, 0), (643, .aload_n 2, 644, 0), (644, .invokevirtual 89, 647, 0), (647, .iload 5, 649, 0), (649, .if_icmp .eq 5, 652, 654)]
theorem okL_law_8 : x_okK cL_law kL_law_8 = true := by decide +kernel
def kL_law_9 : XK := [(652, .iconst 0, 653, 0), (653, .ireturn, 654, 0), (654, .iload 5, 656, 0), (656, .ifCond .ne 15, 659, 671), (659, .aload_n 3, 660, 0), (660, .iconst 0, 661, 0), (661, .laload, 662, 0), (662, .iload 6, 664, 0), (664, .i2l, 665, 0), (665, .lcmp, 666, 0), (666, .ifCond .eq 5, 669, 671), (669, .iconst 0, 670, 0), (670, .ireturn, 671, 0), (671, .goto 1019, 674, 1690), (674, .aload_n 1, 675, 0), (675, .aload_n 0, 676, 0), (676, .iload 4, 678, 0), (678, .iconst 1, 679, 0), (679, .iadd, 680, 0), (680, .iaload, 681, 0), (681, .aload_n 0, 682, 0), (682, .iload 4, 684, 0), (684, .iconst 2, 685, 0), (685, .iadd, 686, 0), (686, .iaload, 687, 0), (687, .aload_n 3, 688, 0), (688, .invokestatic 116, 691, 0), (691, .istore 5, 693, 0), (693, .aload_n 2, 694, 0), (694, .aload_n 0, 695, 0), (695, .iload 4, 697, 0), (697, .iconst 1, 698, 0), (698, .iadd, 699, 0), (699, .iaload, 700, 0), (700, .aload_n 0, 701, 0), (701, .iload 4, 703, 0), (703, .iconst 2, 704, 0), (704, .iadd, 705, 0), (705, .iaload, 706, 0), (706, .invokevirtual 118, 709, 0)]
theorem okL_law_9 : x_okK cL_law kL_law_9 = true := by decide +kernel
def kL_law_10 : XK := [(709, .istore 6, 711, 0), (711, .aload_n 2, 712, 0), (712, .invokevirtual 89, 715, 0), (715, .iload 5, 717, 0), (717, .if_icmp .eq 5, 720, 722), (720, .iconst 0, 721, 0), (721, .ireturn, 722, 0), (722, .iload 5, 724, 0), (724, .ifCond .ne 15, 727, 739), (727, .aload_n 3, 728, 0), (728, .iconst 0, 729, 0), (729, .laload, 730, 0), (730, .iload 6, 732, 0), (732, .i2l, 733, 0), (733, .lcmp, 734, 0), (734, .ifCond .eq 5, 737, 739), (737, .iconst 0, 738, 0), (738, .ireturn, 739, 0), (739, .goto 951, 742, 1690), (742, .aload_n 1, 743, 0), (743, .aload_n 0, 744, 0), (744, .iload 4, 746, 0), (746, .iconst 1, 747, 0), (747, .iadd, 748, 0), (748, .iaload, 749, 0), (749, .aload_n 3, 750, 0), (750, .invokestatic 119, 753, 0), (753, .istore 5, 755, 0), (755, .aload_n 2, 756, 0), (756, .aload_n 0, 757, 0), (757, .iload 4, 759, 0), (759, .iconst 1, 760, 0), (760, .iadd, 761, 0), (761, .iaload, 762, 0), (762, .invokevirtual 121, 765, 0), (765, .istore 6, 767, 0), (767, .aload_n 2, 768, 0), (768, .invokevirtual 89, 771, 0), (771, .iload 5, 773, 0), (773, .if_icmp .eq 5, 776, 778)]
theorem okL_law_10 : x_okK cL_law kL_law_10 = true := by decide +kernel
def kL_law_11 : XK := [(776, .iconst 0, 777, 0), (777, .ireturn, 778, 0), (778, .iload 5, 780, 0), (780, .ifCond .ne 15, 783, 795), (783, .aload_n 3, 784, 0), (784, .iconst 0, 785, 0), (785, .laload, 786, 0), (786, .iload 6, 788, 0), (788, .i2l, 789, 0), (789, .lcmp, 790, 0), (790, .ifCond .eq 5, 793, 795), (793, .iconst 0, 794, 0), (794, .ireturn, 795, 0), (795, .goto 895, 798, 1690), (798, .aload_n 1, 799, 0), (799, .aload_n 0, 800, 0), (800, .iload 4, 802, 0), (802, .iconst 1, 803, 0), (803, .iadd, 804, 0), (804, .iaload, 805, 0), (805, .aload_n 0, 806, 0), (806, .iload 4, 808, 0), (808, .iconst 2, 809, 0), (809, .iadd, 810, 0), (810, .iaload, 811, 0), (811, .aload_n 3, 812, 0), (812, .invokestatic 122, 815, 0), (815, .istore 5, 817, 0), (817, .aload_n 2, 818, 0), (818, .aload_n 0, 819, 0), (819, .iload 4, 821, 0), (821, .iconst 1, 822, 0), (822, .iadd, 823, 0), (823, .iaload, 824, 0), (824, .aload_n 0, 825, 0), (825, .iload 4, 827, 0), (827, .iconst 2, 828, 0), (828, .iadd, 829, 0), (829, .iaload, 830, 0), (830, .invokevirtual 124, 833, 0)]
theorem okL_law_11 : x_okK cL_law kL_law_11 = true := by decide +kernel
def kL_law_12 : XK := [(833, .istore 6, 835, 0), (835, .aload_n 2, 836, 0), (836, .invokevirtual 89, 839, 0), (839, .iload 5, 841, 0), (841, .if_icmp .eq 5, 844, 846), (844, .iconst 0, 845, 0), (845, .ireturn, 846, 0), (846, .iload 5, 848, 0), (848, .ifCond .ne 15, 851, 863), (851, .aload_n 3, 852, 0), (852, .iconst 0, 853, 0), (853, .laload, 854, 0), (854, .iload 6, 856, 0), (856, .i2l, 857, 0), (857, .lcmp, 858, 0), (858, .ifCond .eq 5, 861, 863), (861, .iconst 0, 862, 0), (862, .ireturn, 863, 0), (863, .goto 827, 866, 1690), (866, .aload_n 1, 867, 0), (867, .aload_n 0, 868, 0), (868, .iload 4, 870, 0), (870, .iconst 1, 871, 0), (871, .iadd, 872, 0), (872, .iaload, 873, 0), (873, .aload_n 0, 874, 0), (874, .iload 4, 876, 0), (876, .iconst 2, 877, 0), (877, .iadd, 878, 0), (878, .iaload, 879, 0), (879, .aload_n 0, 880, 0), (880, .iload 4, 882, 0), (882, .iconst 3, 883, 0), (883, .iadd, 884, 0), (884, .iaload, 885, 0), (885, .aload_n 0, 886, 0), (886, .iload 4, 888, 0), (888, .iconst 4, 889, 0), (889, .iadd, 890, 0), (890, .iaload, 891, 0)]
theorem okL_law_12 : x_okK cL_law kL_law_12 = true := by decide +kernel
def kL_law_13 : XK := [(891, .aload_n 0, 892, 0), (892, .iload 4, 894, 0), (894, .iconst 5, 895, 0), (895, .iadd, 896, 0), (896, .iaload, 897, 0), (897, .aload_n 3, 898, 0), (898, .invokestatic 125, 901, 0), (901, .istore 5, 903, 0), (903, .aload_n 2, 904, 0), (904, .aload_n 0, 905, 0), (905, .iload 4, 907, 0), (907, .iconst 1, 908, 0), (908, .iadd, 909, 0), (909, .iaload, 910, 0), (910, .aload_n 0, 911, 0), (911, .iload 4, 913, 0), (913, .iconst 2, 914, 0), (914, .iadd, 915, 0), (915, .iaload, 916, 0), (916, .aload_n 0, 917, 0), (917, .iload 4, 919, 0), (919, .iconst 3, 920, 0), (920, .iadd, 921, 0), (921, .iaload, 922, 0), (922, .aload_n 0, 923, 0), (923, .iload 4, 925, 0), (925, .iconst 4, 926, 0), (926, .iadd, 927, 0), (927, .iaload, 928, 0), (928, .aload_n 0, 929, 0), (929, .iload 4, 931, 0), (931, .iconst 5, 932, 0), (932, .iadd, 933, 0), (933, .iaload, 934, 0), (934, .invokevirtual 128, 937, 0), (937, .istore 6, 939, 0), (939, .aload_n 2, 940, 0), (940, .invokevirtual 89, 943, 0), (943, .iload 5, 945, 0), (945, .if_icmp .eq 5, 948, 950)]
theorem okL_law_13 : x_okK cL_law kL_law_13 = true := by decide +kernel
def kL_law_14 : XK := [(948, .iconst 0, 949, 0), (949, .ireturn, 950, 0), (950, .iload 5, 952, 0), (952, .ifCond .ne 15, 955, 967), (955, .aload_n 3, 956, 0), (956, .iconst 0, 957, 0), (957, .laload, 958, 0), (958, .iload 6, 960, 0), (960, .i2l, 961, 0), (961, .lcmp, 962, 0), (962, .ifCond .eq 5, 965, 967), (965, .iconst 0, 966, 0), (966, .ireturn, 967, 0), (967, .goto 723, 970, 1690), (970, .aload_n 1, 971, 0), (971, .aload_n 0, 972, 0), (972, .iload 4, 974, 0), (974, .iconst 1, 975, 0), (975, .iadd, 976, 0), (976, .iaload, 977, 0), (977, .aload_n 0, 978, 0), (978, .iload 4, 980, 0), (980, .iconst 2, 981, 0), (981, .iadd, 982, 0), (982, .iaload, 983, 0), (983, .aload_n 0, 984, 0), (984, .iload 4, 986, 0), (986, .iconst 3, 987, 0), (987, .iadd, 988, 0), (988, .iaload, 989, 0), (989, .aload_n 0, 990, 0), (990, .iload 4, 992, 0), (992, .iconst 4, 993, 0), (993, .iadd, 994, 0), (994, .iaload, 995, 0), (995, .aload_n 0, 996, 0), (996, .iload 4, 998, 0), (998, .iconst 5, 999, 0), (999, .iadd, 1000, 0), (1000, .iaload, 1001, 0)]
theorem okL_law_14 : x_okK cL_law kL_law_14 = true := by decide +kernel
def kL_law_15 : XK := [(1001, .aload_n 0, 1002, 0), (1002, .iload 4, 1004, 0), (1004, .bipush 6, 1006, 0), (1006, .iadd, 1007, 0), (1007, .iaload, 1008, 0), (1008, .aload_n 3, 1009, 0), (1009, .invokestatic 129, 1012, 0), (1012, .istore 5, 1014, 0), (1014, .aload_n 2, 1015, 0), (1015, .aload_n 0, 1016, 0), (1016, .iload 4, 1018, 0), (1018, .iconst 1, 1019, 0), (1019, .iadd, 1020, 0), (1020, .iaload, 1021, 0), (1021, .aload_n 0, 1022, 0), (1022, .iload 4, 1024, 0), (1024, .iconst 2, 1025, 0), (1025, .iadd, 1026, 0), (1026, .iaload, 1027, 0), (1027, .aload_n 0, 1028, 0), (1028, .iload 4, 1030, 0), (1030, .iconst 3, 1031, 0), (1031, .iadd, 1032, 0), (1032, .iaload, 1033, 0), (1033, .aload_n 0, 1034, 0), (1034, .iload 4, 1036, 0), (1036, .iconst 4, 1037, 0), (1037, .iadd, 1038, 0), (1038, .iaload, 1039, 0), (1039, .aload_n 0, 1040, 0), (1040, .iload 4, 1042, 0), (1042, .iconst 5, 1043, 0), (1043, .iadd, 1044, 0), (1044, .iaload, 1045, 0), (1045, .aload_n 0, 1046, 0), (1046, .iload 4, 1048, 0), (1048, .bipush 6, 1050, 0), (1050, .iadd, 1051, 0), (1051, .iaload, 1052, 0), (1052, .invokevirtual 132, 1055, 0)]
theorem okL_law_15 : x_okK cL_law kL_law_15 = true := by decide +kernel
def kL_law_16 : XK := [(1055, .istore 6, 1057, 0), (1057, .aload_n 2, 1058, 0), (1058, .invokevirtual 89, 1061, 0), (1061, .iload 5, 1063, 0), (1063, .if_icmp .eq 5, 1066, 1068), (1066, .iconst 0, 1067, 0), (1067, .ireturn, 1068, 0), (1068, .iload 5, 1070, 0), (1070, .ifCond .ne 15, 1073, 1085), (1073, .aload_n 3, 1074, 0), (1074, .iconst 0, 1075, 0), (1075, .laload, 1076, 0), (1076, .iload 6, 1078, 0), (1078, .i2l, 1079, 0), (1079, .lcmp, 1080, 0), (1080, .ifCond .eq 5, 1083, 1085), (1083, .iconst 0, 1084, 0), (1084, .ireturn, 1085, 0), (1085, .goto 605, 1088, 1690), (1088, .aload_n 1, 1089, 0), (1089, .aload_n 0, 1090, 0), (1090, .iload 4, 1092, 0), (1092, .iconst 1, 1093, 0), (1093, .iadd, 1094, 0), (1094, .iaload, 1095, 0), (1095, .aload_n 0, 1096, 0), (1096, .iload 4, 1098, 0), (1098, .iconst 2, 1099, 0), (1099, .iadd, 1100, 0), (1100, .iaload, 1101, 0), (1101, .aload_n 0, 1102, 0), (1102, .iload 4, 1104, 0), (1104, .iconst 3, 1105, 0), (1105, .iadd, 1106, 0), (1106, .iaload, 1107, 0), (1107, .aload_n 0, 1108, 0), (1108, .iload 4, 1110, 0), (1110, .iconst 4, 1111, 0), (1111, .iadd, 1112, 0), (1112, .iaload, 1113, 0)]
theorem okL_law_16 : x_okK cL_law kL_law_16 = true := by decide +kernel
def kL_law_17 : XK := [(1113, .aload_n 0, 1114, 0), (1114, .iload 4, 1116, 0), (1116, .iconst 5, 1117, 0), (1117, .iadd, 1118, 0), (1118, .iaload, 1119, 0), (1119, .aload_n 3, 1120, 0), (1120, .invokestatic 133, 1123, 0), (1123, .istore 5, 1125, 0), (1125, .aload_n 2, 1126, 0), (1126, .aload_n 0, 1127, 0), (1127, .iload 4, 1129, 0), (1129, .iconst 1, 1130, 0), (1130, .iadd, 1131, 0), (1131, .iaload, 1132, 0), (1132, .aload_n 0, 1133, 0), (1133, .iload 4, 1135, 0), (1135, .iconst 2, 1136, 0), (1136, .iadd, 1137, 0), (1137, .iaload, 1138, 0), (1138, .aload_n 0, 1139, 0), (1139, .iload 4, 1141, 0), (1141, .iconst 3, 1142, 0), (1142, .iadd, 1143, 0), (1143, .iaload, 1144, 0), (1144, .aload_n 0, 1145, 0), (1145, .iload 4, 1147, 0), (1147, .iconst 4, 1148, 0), (1148, .iadd, 1149, 0), (1149, .iaload, 1150, 0), (1150, .aload_n 0, 1151, 0), (1151, .iload 4, 1153, 0), (1153, .iconst 5, 1154, 0), (1154, .iadd, 1155, 0), (1155, .iaload, 1156, 0), (1156, .invokevirtual 135, 1159, 0), (1159, .istore 6, 1161, 0), (1161, .aload_n 2, 1162, 0), (1162, .invokevirtual 89, 1165, 0), (1165, .iload 5, 1167, 0), (1167, .if_icmp .eq 5, 1170, 1172)]
theorem okL_law_17 : x_okK cL_law kL_law_17 = true := by decide +kernel
def kL_law_18 : XK := [(1170, .iconst 0, 1171, 0), (1171, .ireturn, 1172, 0), (1172, .iload 5, 1174, 0), (1174, .ifCond .ne 15, 1177, 1189), (1177, .aload_n 3, 1178, 0), (1178, .iconst 0, 1179, 0), (1179, .laload, 1180, 0), (1180, .iload 6, 1182, 0), (1182, .i2l, 1183, 0), (1183, .lcmp, 1184, 0), (1184, .ifCond .eq 5, 1187, 1189), (1187, .iconst 0, 1188, 0), (1188, .ireturn, 1189, 0), (1189, .goto 501, 1192, 1690), (1192, .aload_n 1, 1193, 0), (1193, .aload_n 0, 1194, 0), (1194, .iload 4, 1196, 0), (1196, .iconst 1, 1197, 0), (1197, .iadd, 1198, 0), (1198, .iaload, 1199, 0), (1199, .aload_n 0, 1200, 0), (1200, .iload 4, 1202, 0), (1202, .iconst 2, 1203, 0), (1203, .iadd, 1204, 0), (1204, .iaload, 1205, 0), (1205, .aload_n 0, 1206, 0), (1206, .iload 4, 1208, 0), (1208, .iconst 3, 1209, 0), (1209, .iadd, 1210, 0), (1210, .iaload, 1211, 0), (1211, .aload_n 0, 1212, 0), (1212, .iload 4, 1214, 0), (1214, .iconst 4, 1215, 0), (1215, .iadd, 1216, 0), (1216, .iaload, 1217, 0), (1217, .aload_n 0, 1218, 0), (1218, .iload 4, 1220, 0), (1220, .iconst 5, 1221, 0), (1221, .iadd, 1222, 0), (1222, .iaload, 1223, 0)]
theorem okL_law_18 : x_okK cL_law kL_law_18 = true := by decide +kernel
def kL_law_19 : XK := [(1223, .aload_n 3, 1224, 0), (1224, .invokestatic 136, 1227, 0), (1227, .istore 5, 1229, 0), (1229, .aload_n 2, 1230, 0), (1230, .aload_n 0, 1231, 0), (1231, .iload 4, 1233, 0), (1233, .iconst 1, 1234, 0), (1234, .iadd, 1235, 0), (1235, .iaload, 1236, 0), (1236, .aload_n 0, 1237, 0), (1237, .iload 4, 1239, 0), (1239, .iconst 2, 1240, 0), (1240, .iadd, 1241, 0), (1241, .iaload, 1242, 0), (1242, .aload_n 0, 1243, 0), (1243, .iload 4, 1245, 0), (1245, .iconst 3, 1246, 0), (1246, .iadd, 1247, 0), (1247, .iaload, 1248, 0), (1248, .aload_n 0, 1249, 0), (1249, .iload 4, 1251, 0), (1251, .iconst 4, 1252, 0), (1252, .iadd, 1253, 0), (1253, .iaload, 1254, 0), (1254, .aload_n 0, 1255, 0), (1255, .iload 4, 1257, 0), (1257, .iconst 5, 1258, 0), (1258, .iadd, 1259, 0), (1259, .iaload, 1260, 0), (1260, .invokevirtual 138, 1263, 0), (1263, .lstore 6, 1265, 0), (1265, .aload_n 2, 1266, 0), (1266, .invokevirtual 89, 1269, 0), (1269, .iload 5, 1271, 0), (1271, .if_icmp .eq 5, 1274, 1276), (1274, .iconst 0, 1275, 0), (1275, .ireturn, 1276, 0), (1276, .iload 5, 1278, 0), (1278, .ifCond .ne 14, 1281, 1292), (1281, .aload_n 3, 1282, 0)]
theorem okL_law_19 : x_okK cL_law kL_law_19 = true := by decide +kernel
def kL_law_20 : XK := [(1282, .iconst 0, 1283, 0), (1283, .laload, 1284, 0), (1284, .lload 6, 1286, 0), (1286, .lcmp, 1287, 0), (1287, .ifCond .eq 5, 1290, 1292), (1290, .iconst 0, 1291, 0), (1291, .ireturn, 1292, 0), (1292, .goto 398, 1295, 1690), (1295, .aload_n 1, 1296, 0), (1296, .aload_n 0, 1297, 0), (1297, .iload 4, 1299, 0), (1299, .iconst 1, 1300, 0), (1300, .iadd, 1301, 0), (1301, .iaload, 1302, 0), (1302, .aload_n 0, 1303, 0), (1303, .iload 4, 1305, 0), (1305, .iconst 2, 1306, 0), (1306, .iadd, 1307, 0), (1307, .iaload, 1308, 0), (1308, .aload_n 0, 1309, 0), (1309, .iload 4, 1311, 0), (1311, .iconst 3, 1312, 0), (1312, .iadd, 1313, 0), (1313, .iaload, 1314, 0), (1314, .aload_n 0, 1315, 0), (1315, .iload 4, 1317, 0), (1317, .iconst 4, 1318, 0), (1318, .iadd, 1319, 0), (1319, .iaload, 1320, 0), (1320, .aload_n 0, 1321, 0), (1321, .iload 4, 1323, 0), (1323, .iconst 5, 1324, 0), (1324, .iadd, 1325, 0), (1325, .iaload, 1326, 0), (1326, .aload_n 3, 1327, 0), (1327, .invokestatic 139, 1330, 0), (1330, .istore 5, 1332, 0), (1332, .aload_n 2, 1333, 0), (1333, .aload_n 0, 1334, 0), (1334, .iload 4, 1336, 0)]
theorem okL_law_20 : x_okK cL_law kL_law_20 = true := by decide +kernel
def kL_law_21 : XK := [(1336, .iconst 1, 1337, 0), (1337, .iadd, 1338, 0), (1338, .iaload, 1339, 0), (1339, .aload_n 0, 1340, 0), (1340, .iload 4, 1342, 0), (1342, .iconst 2, 1343, 0), (1343, .iadd, 1344, 0), (1344, .iaload, 1345, 0), (1345, .aload_n 0, 1346, 0), (1346, .iload 4, 1348, 0), (1348, .iconst 3, 1349, 0), (1349, .iadd, 1350, 0), (1350, .iaload, 1351, 0), (1351, .aload_n 0, 1352, 0), (1352, .iload 4, 1354, 0), (1354, .iconst 4, 1355, 0), (1355, .iadd, 1356, 0), (1356, .iaload, 1357, 0), (1357, .aload_n 0, 1358, 0), (1358, .iload 4, 1360, 0), (1360, .iconst 5, 1361, 0), (1361, .iadd, 1362, 0), (1362, .iaload, 1363, 0), (1363, .invokevirtual 141, 1366, 0), (1366, .istore 6, 1368, 0), (1368, .aload_n 2, 1369, 0), (1369, .invokevirtual 89, 1372, 0), (1372, .iload 5, 1374, 0), (1374, .if_icmp .eq 5, 1377, 1379), (1377, .iconst 0, 1378, 0), (1378, .ireturn, 1379, 0), (1379, .iload 5, 1381, 0), (1381, .ifCond .ne 15, 1384, 1396), (1384, .aload_n 3, 1385, 0), (1385, .iconst 0, 1386, 0), (1386, .laload, 1387, 0), (1387, .iload 6, 1389, 0), (1389, .i2l, 1390, 0), (1390, .lcmp, 1391, 0), (1391, .ifCond .eq 5, 1394, 1396)]
theorem okL_law_21 : x_okK cL_law kL_law_21 = true := by decide +kernel
def kL_law_22 : XK := [(1394, .iconst 0, 1395, 0), (1395, .ireturn, 1396, 0), (1396, .goto 294, 1399, 1690), (1399, .aload_n 1, 1400, 0), (1400, .aload_n 0, 1401, 0), (1401, .iload 4, 1403, 0), (1403, .iconst 1, 1404, 0), (1404, .iadd, 1405, 0), (1405, .iaload, 1406, 0), (1406, .aload_n 0, 1407, 0), (1407, .iload 4, 1409, 0), (1409, .iconst 2, 1410, 0), (1410, .iadd, 1411, 0), (1411, .iaload, 1412, 0), (1412, .aload_n 0, 1413, 0), (1413, .iload 4, 1415, 0), (1415, .iconst 3, 1416, 0), (1416, .iadd, 1417, 0), (1417, .iaload, 1418, 0), (1418, .aload_n 0, 1419, 0), (1419, .iload 4, 1421, 0), (1421, .iconst 4, 1422, 0), (1422, .iadd, 1423, 0), (1423, .iaload, 1424, 0), (1424, .aload_n 0, 1425, 0), (1425, .iload 4, 1427, 0), (1427, .iconst 5, 1428, 0), (1428, .iadd, 1429, 0), (1429, .iaload, 1430, 0), (1430, .aload_n 3, 1431, 0), (1431, .invokestatic 142, 1434, 0), (1434, .istore 5, 1436, 0), (1436, .aload_n 2, 1437, 0), (1437, .aload_n 0, 1438, 0), (1438, .iload 4, 1440, 0), (1440, .iconst 1, 1441, 0), (1441, .iadd, 1442, 0), (1442, .iaload, 1443, 0), (1443, .aload_n 0, 1444, 0), (1444, .iload 4, 1446, 0)]
theorem okL_law_22 : x_okK cL_law kL_law_22 = true := by decide +kernel
def kL_law_23 : XK := [(1446, .iconst 2, 1447, 0), (1447, .iadd, 1448, 0), (1448, .iaload, 1449, 0), (1449, .aload_n 0, 1450, 0), (1450, .iload 4, 1452, 0), (1452, .iconst 3, 1453, 0), (1453, .iadd, 1454, 0), (1454, .iaload, 1455, 0), (1455, .aload_n 0, 1456, 0), (1456, .iload 4, 1458, 0), (1458, .iconst 4, 1459, 0), (1459, .iadd, 1460, 0), (1460, .iaload, 1461, 0), (1461, .aload_n 0, 1462, 0), (1462, .iload 4, 1464, 0), (1464, .iconst 5, 1465, 0), (1465, .iadd, 1466, 0), (1466, .iaload, 1467, 0), (1467, .invokevirtual 144, 1470, 0), (1470, .istore 6, 1472, 0), (1472, .aload_n 2, 1473, 0), (1473, .invokevirtual 89, 1476, 0), (1476, .iload 5, 1478, 0), (1478, .if_icmp .eq 5, 1481, 1483), (1481, .iconst 0, 1482, 0), (1482, .ireturn, 1483, 0), (1483, .iload 5, 1485, 0), (1485, .ifCond .ne 15, 1488, 1500), (1488, .aload_n 3, 1489, 0), (1489, .iconst 0, 1490, 0), (1490, .laload, 1491, 0), (1491, .iload 6, 1493, 0), (1493, .i2l, 1494, 0), (1494, .lcmp, 1495, 0), (1495, .ifCond .eq 5, 1498, 1500), (1498, .iconst 0, 1499, 0), (1499, .ireturn, 1500, 0), (1500, .goto 190, 1503, 1690), (1503, .aload_n 1, 1504, 0), (1504, .aload_n 0, 1505, 0)]
theorem okL_law_23 : x_okK cL_law kL_law_23 = true := by decide +kernel
def kL_law_24 : XK := [(1505, .iload 4, 1507, 0), (1507, .iconst 1, 1508, 0), (1508, .iadd, 1509, 0), (1509, .iaload, 1510, 0), (1510, .aload_n 3, 1511, 0), (1511, .invokestatic 145, 1514, 0), (1514, .istore 5, 1516, 0), (1516, .aload_n 2, 1517, 0), (1517, .aload_n 0, 1518, 0), (1518, .iload 4, 1520, 0), (1520, .iconst 1, 1521, 0), (1521, .iadd, 1522, 0), (1522, .iaload, 1523, 0), (1523, .invokevirtual 147, 1526, 0), (1526, .istore 6, 1528, 0), (1528, .aload_n 2, 1529, 0), (1529, .invokevirtual 89, 1532, 0), (1532, .iload 5, 1534, 0), (1534, .if_icmp .eq 5, 1537, 1539), (1537, .iconst 0, 1538, 0), (1538, .ireturn, 1539, 0), (1539, .iload 5, 1541, 0), (1541, .ifCond .ne 15, 1544, 1556), (1544, .aload_n 3, 1545, 0), (1545, .iconst 0, 1546, 0), (1546, .laload, 1547, 0), (1547, .iload 6, 1549, 0), (1549, .i2l, 1550, 0), (1550, .lcmp, 1551, 0), (1551, .ifCond .eq 5, 1554, 1556), (1554, .iconst 0, 1555, 0), (1555, .ireturn, 1556, 0), (1556, .goto 134, 1559, 1690), (1559, .aload_n 1, 1560, 0), (1560, .aload_n 0, 1561, 0), (1561, .iload 4, 1563, 0), (1563, .iconst 1, 1564, 0), (1564, .iadd, 1565, 0), (1565, .iaload, 1566, 0), (1566, .aload_n 0, 1567, 0)]
theorem okL_law_24 : x_okK cL_law kL_law_24 = true := by decide +kernel
def kL_law_25 : XK := [(1567, .iload 4, 1569, 0), (1569, .iconst 2, 1570, 0), (1570, .iadd, 1571, 0), (1571, .iaload, 1572, 0), (1572, .ifCond .eq 7, 1575, 1579), (1575, .iconst 1, 1576, 0), (1576, .goto 4, 1579, 1580), (1579, .iconst 0, 1580, 0), (1580, .aload_n 3, 1581, 0), (1581, .invokestatic 148, 1584, 0), (1584, .istore 5, 1586, 0), (1586, .aload_n 2, 1587, 0), (1587, .aload_n 0, 1588, 0), (1588, .iload 4, 1590, 0), (1590, .iconst 1, 1591, 0), (1591, .iadd, 1592, 0), (1592, .iaload, 1593, 0), (1593, .aload_n 0, 1594, 0), (1594, .iload 4, 1596, 0), (1596, .iconst 2, 1597, 0), (1597, .iadd, 1598, 0), (1598, .iaload, 1599, 0), (1599, .ifCond .eq 7, 1602, 1606), (1602, .iconst 1, 1603, 0), (1603, .goto 4, 1606, 1607), (1606, .iconst 0, 1607, 0), (1607, .invokevirtual 151, 1610, 0), (1610, .istore 6, 1612, 0), (1612, .aload_n 2, 1613, 0), (1613, .invokevirtual 89, 1616, 0), (1616, .iload 5, 1618, 0), (1618, .if_icmp .eq 5, 1621, 1623), (1621, .iconst 0, 1622, 0), (1622, .ireturn, 1623, 0), (1623, .iload 5, 1625, 0), (1625, .ifCond .ne 22, 1628, 1647), (1628, .aload_n 3, 1629, 0), (1629, .iconst 0, 1630, 0), (1630, .laload, 1631, 0), (1631, .iload 6, 1633, 0)]
theorem okL_law_25 : x_okK cL_law kL_law_25 = true := by decide +kernel
def kL_law_26 : XK := [(1633, .ifCond .eq 7, 1636, 1640), (1636, .lconst 1, 1637, 0), (1637, .goto 4, 1640, 1641), (1640, .lconst 0, 1641, 0), (1641, .lcmp, 1642, 0), (1642, .ifCond .eq 5, 1645, 1647), (1645, .iconst 0, 1646, 0), (1646, .ireturn, 1647, 0), (1647, .goto 43, 1650, 1690), (1650, .aload_n 1, 1651, 0), (1651, .invokevirtual 152, 1654, 0), (1654, .aload_n 2, 1655, 0), (1655, .invokevirtual 155, 1658, 0), (1658, .if_icmp .eq 32, 1661, 1690), (1661, .iconst 0, 1662, 0), (1662, .ireturn, 1663, 0), (1663, .aload_n 1, 1664, 0), (1664, .invokevirtual 156, 1667, 0), (1667, .aload_n 2, 1668, 0), (1668, .invokevirtual 159, 1671, 0), (1671, .if_icmp .eq 19, 1674, 1690), (1674, .iconst 0, 1675, 0), (1675, .ireturn, 1676, 0), (1676, .aload_n 1, 1677, 0), (1677, .invokevirtual 160, 1680, 0), (1680, .aload_n 2, 1681, 0), (1681, .invokevirtual 164, 1684, 0), (1684, .lcmp, 1685, 0), (1685, .ifCond .eq 5, 1688, 1690), (1688, .iconst 0, 1689, 0), (1689, .ireturn, 1690, 0), (1690, .iinc 4 7, 1693, 0), (1693, .goto (-1670), 1696, 23), (1696, .iconst 1, 1697, 0), (1697, .ireturn, 1698, 0)]
theorem okL_law_26 : x_okK cL_law kL_law_26 = true := by decide +kernel
theorem x_okK_app {b : ByteArray} {K K2 : XK} (h : x_okK b K = true) (h2 : x_okK b K2 = true) : x_okK b (K ++ K2) = true := by
  unfold x_okK at h h2 ⊢
  rw [List.all_append, h, h2]; rfl
def kL_law : XK := kL_law_0 ++ (kL_law_1 ++ (kL_law_2 ++ (kL_law_3 ++ (kL_law_4 ++ (kL_law_5 ++ (kL_law_6 ++ (kL_law_7 ++ (kL_law_8 ++ (kL_law_9 ++ (kL_law_10 ++ (kL_law_11 ++ (kL_law_12 ++ (kL_law_13 ++ (kL_law_14 ++ (kL_law_15 ++ (kL_law_16 ++ (kL_law_17 ++ (kL_law_18 ++ (kL_law_19 ++ (kL_law_20 ++ (kL_law_21 ++ (kL_law_22 ++ (kL_law_23 ++ (kL_law_24 ++ (kL_law_25 ++ (kL_law_26))))))))))))))))))))))))))
def mL_law : XMI := (RL, yL_law, cL_law, 8, (some FieldType.boolean), [], kL_law)
theorem okL_law : x_okK cL_law kL_law = true := x_okK_app okL_law_0 (x_okK_app okL_law_1 (x_okK_app okL_law_2 (x_okK_app okL_law_3 (x_okK_app okL_law_4 (x_okK_app okL_law_5 (x_okK_app okL_law_6 (x_okK_app okL_law_7 (x_okK_app okL_law_8 (x_okK_app okL_law_9 (x_okK_app okL_law_10 (x_okK_app okL_law_11 (x_okK_app okL_law_12 (x_okK_app okL_law_13 (x_okK_app okL_law_14 (x_okK_app okL_law_15 (x_okK_app okL_law_16 (x_okK_app okL_law_17 (x_okK_app okL_law_18 (x_okK_app okL_law_19 (x_okK_app okL_law_20 (x_okK_app okL_law_21 (x_okK_app okL_law_22 (x_okK_app okL_law_23 (x_okK_app okL_law_24 (x_okK_app okL_law_25 (okL_law_26))))))))))))))))))))))))))
end
section
/-! ===== words and links, by program ===== -/
theorem x_in {w : Cond} (i : Nat) (h : lw_tbl[i]? = some w) (hg : goodWord w = true) : w ∈ x_T := List.mem_filter.mpr ⟨List.mem_of_getElem? h, hg⟩
theorem x_ins (ws : List Cond) (is : List Nat) (h : is.map (fun i => lw_tbl[i]?) = ws.map some) (hg : ws.all goodWord = true) : ∀ w ∈ ws, w ∈ x_T := by
  intro w hw
  obtain ⟨k, hk⟩ := List.getElem?_of_mem hw
  have h1 : (is.map (fun i => lw_tbl[i]?))[k]? = some (some w) := by rw [h, List.getElem?_map, hk]; rfl
  rw [List.getElem?_map] at h1
  cases hi : is[k]? with
  | none => rw [hi] at h1; cases h1
  | some i =>
    rw [hi] at h1
    exact List.mem_filter.mpr ⟨List.mem_of_getElem? (Option.some.inj h1), List.all_eq_true.mp hg w hw⟩
theorem cl_0 : x_Cl 0 RJx4a65c TJx4a65c 3 tyJx4a65c := ⟨rfl, x_ins _ [216, 212, 214] (by decide +kernel) (by decide +kernel), tyJx4a65c_ok, nmJx4a65c⟩
theorem cl_1 : x_Cl 1 RX0 TX0 4 tyX0 := ⟨rfl, x_ins _ [966, 968, 970, 972] (by decide +kernel) (by decide +kernel), tyX0_ok, nmX0⟩
theorem cl_2 : x_Cl 2 RX1 TX1 2 tyX1 := ⟨rfl, x_ins _ [880, 882] (by decide +kernel) (by decide +kernel), tyX1_ok, nmX1⟩
theorem cl_3 : x_Cl 3 RX3 TX3 7 tyX3 := ⟨rfl, x_ins _ [359, 361, 363, 365, 367, 369, 371] (by decide +kernel) (by decide +kernel), tyX3_ok, nmX3⟩
theorem cl_4 : x_Cl 4 RX4 TX4 4 tyX4 := ⟨rfl, x_ins _ [995, 997, 999, 1001] (by decide +kernel) (by decide +kernel), tyX4_ok, nmX4⟩
theorem cl_5 : x_Cl 5 RX5 TX5 8 tyX5 := ⟨rfl, x_ins _ [245, 247, 249, 251, 253, 255, 257, 259] (by decide +kernel) (by decide +kernel), tyX5_ok, nmX5⟩
theorem cl_6 : x_Cl 6 RX6 TX6 6 tyX6 := ⟨rfl, x_ins _ [751, 753, 755, 757, 759, 761] (by decide +kernel) (by decide +kernel), tyX6_ok, nmX6⟩
theorem cl_7 : x_Cl 7 RX7 TX7 4 tyX7 := ⟨rfl, x_ins _ [285, 287, 289, 291] (by decide +kernel) (by decide +kernel), tyX7_ok, nmX7⟩
theorem cl_8 : x_Cl 8 RX8 TX8 8 tyX8 := ⟨rfl, x_ins _ [165, 167, 169, 171, 173, 175, 177, 179] (by decide +kernel) (by decide +kernel), tyX8_ok, nmX8⟩
theorem cl_9 : x_Cl 9 RX9 TX9 9 tyX9 := ⟨rfl, x_ins _ [324, 326, 328, 330, 332, 334, 336, 338, 340] (by decide +kernel) (by decide +kernel), tyX9_ok, nmX9⟩
theorem cl_10 : x_Cl 10 RX10 TX10 7 tyX10 := ⟨rfl, x_ins _ [381, 383, 385, 387, 389, 391, 393] (by decide +kernel) (by decide +kernel), tyX10_ok, nmX10⟩
theorem cl_11 : x_Cl 11 RX11 TX11 20 tyX11 := ⟨rfl, x_ins _ [1293, 1295, 1297, 1299, 1301, 1303, 1305, 1307, 1309, 1311, 1313, 1315, 1317, 1319, 1321, 1323, 1325, 1327, 1329, 1331] (by decide +kernel) (by decide +kernel), tyX11_ok, nmX11⟩
theorem f_X10_9 : x_FL RX10 9 10 0 (.array .byte) true := ⟨_, _, _, _, cl_10, by decide, rfl, rfl, Or.inl (x_in 374 (by decide +kernel) rfl)⟩
theorem f_X10_13 : x_FL RX10 13 10 2 .int false := ⟨_, _, _, _, cl_10, by decide, rfl, rfl, Or.inl (x_in 376 (by decide +kernel) rfl)⟩
theorem f_X10_20 : x_FL RX10 20 10 3 (.object "PreparedPlans$Tokens") true := ⟨_, _, _, _, cl_10, by decide, rfl, rfl, Or.inl (x_in 377 (by decide +kernel) rfl)⟩
theorem f_X10_26 : x_FL RX10 26 10 4 (.array (.object "PreparedPlans$Data")) true := ⟨_, _, _, _, cl_10, by decide, rfl, rfl, Or.inl (x_in 378 (by decide +kernel) rfl)⟩
theorem f_X10_36 : x_FL RX10 36 10 1 .int false := ⟨_, _, _, _, cl_10, by decide, rfl, rfl, Or.inl (x_in 375 (by decide +kernel) rfl)⟩
theorem f_X10_62 : x_FL RX10 62 6 5 .int false := ⟨_, _, _, _, cl_6, by decide, rfl, rfl, Or.inr ⟨"PreparedPlans", List.mem_of_getElem? (i := 750) (by decide +kernel)⟩⟩
theorem f_X10_65 : x_FL RX10 65 6 4 .int false := ⟨_, _, _, _, cl_6, by decide, rfl, rfl, Or.inr ⟨"PreparedPlans", List.mem_of_getElem? (i := 748) (by decide +kernel)⟩⟩
theorem f_X10_75 : x_FL RX10 75 3 0 (.object "PreparedPlans$Setup") false := ⟨_, _, _, _, cl_3, by decide, rfl, rfl, Or.inr ⟨"PreparedPlans", List.mem_of_getElem? (i := 344) (by decide +kernel)⟩⟩
theorem f_X10_79 : x_FL RX10 79 5 3 (.object "java/util/ArrayList") true := ⟨_, _, _, _, cl_5, by decide, rfl, rfl, Or.inr ⟨"PreparedPlans", List.mem_of_getElem? (i := 226) (by decide +kernel)⟩⟩
theorem f_X10_88 : x_FL RX10 88 5 0 .int false := ⟨_, _, _, _, cl_5, by decide, rfl, rfl, Or.inr ⟨"PreparedPlans", List.mem_of_getElem? (i := 220) (by decide +kernel)⟩⟩
theorem f_X10_91 : x_FL RX10 91 3 1 .int false := ⟨_, _, _, _, cl_3, by decide, rfl, rfl, Or.inr ⟨"PreparedPlans", List.mem_of_getElem? (i := 347) (by decide +kernel)⟩⟩
theorem f_X10_94 : x_FL RX10 94 3 2 .int false := ⟨_, _, _, _, cl_3, by decide, rfl, rfl, Or.inr ⟨"PreparedPlans", List.mem_of_getElem? (i := 350) (by decide +kernel)⟩⟩
theorem f_X10_97 : x_FL RX10 97 5 4 .int false := ⟨_, _, _, _, cl_5, by decide, rfl, rfl, Or.inr ⟨"PreparedPlans", List.mem_of_getElem? (i := 230) (by decide +kernel)⟩⟩
theorem f_X10_100 : x_FL RX10 100 5 5 .int false := ⟨_, _, _, _, cl_5, by decide, rfl, rfl, Or.inr ⟨"PreparedPlans", List.mem_of_getElem? (i := 234) (by decide +kernel)⟩⟩
theorem f_X10_103 : x_FL RX10 103 5 6 .int false := ⟨_, _, _, _, cl_5, by decide, rfl, rfl, Or.inr ⟨"PreparedPlans", List.mem_of_getElem? (i := 238) (by decide +kernel)⟩⟩
theorem f_X10_106 : x_FL RX10 106 5 7 .int false := ⟨_, _, _, _, cl_5, by decide, rfl, rfl, Or.inr ⟨"PreparedPlans", List.mem_of_getElem? (i := 242) (by decide +kernel)⟩⟩
theorem f_X10_109 : x_FL RX10 109 3 5 (.object "PreparedPlans$Statistics") true := ⟨_, _, _, _, cl_3, by decide, rfl, rfl, Or.inr ⟨"PreparedPlans", List.mem_of_getElem? (i := 356) (by decide +kernel)⟩⟩
theorem f_X10_113 : x_FL RX10 113 7 0 .int false := ⟨_, _, _, _, cl_7, by decide, rfl, rfl, Or.inr ⟨"PreparedPlans", List.mem_of_getElem? (i := 274) (by decide +kernel)⟩⟩
theorem f_X10_130 : x_FL RX10 130 3 4 (.array .boolean) true := ⟨_, _, _, _, cl_3, by decide, rfl, rfl, Or.inr ⟨"PreparedPlans", List.mem_of_getElem? (i := 353) (by decide +kernel)⟩⟩
theorem f_X10_134 : x_FL RX10 134 7 1 (.array .int) true := ⟨_, _, _, _, cl_7, by decide, rfl, rfl, Or.inr ⟨"PreparedPlans", List.mem_of_getElem? (i := 277) (by decide +kernel)⟩⟩
theorem f_X10_138 : x_FL RX10 138 7 2 (.array .int) true := ⟨_, _, _, _, cl_7, by decide, rfl, rfl, Or.inr ⟨"PreparedPlans", List.mem_of_getElem? (i := 280) (by decide +kernel)⟩⟩
theorem f_X10_141 : x_FL RX10 141 7 3 (.array .int) true := ⟨_, _, _, _, cl_7, by decide, rfl, rfl, Or.inr ⟨"PreparedPlans", List.mem_of_getElem? (i := 283) (by decide +kernel)⟩⟩
theorem f_X10_170 : x_FL RX10 170 4 2 (.array .int) true := ⟨_, _, _, _, cl_4, by decide, rfl, rfl, Or.inr ⟨"PreparedPlans", List.mem_of_getElem? (i := 991) (by decide +kernel)⟩⟩
theorem f_X10_173 : x_FL RX10 173 3 6 (.array (.object "PreparedPlans$Usage")) true := ⟨_, _, _, _, cl_3, by decide, rfl, rfl, Or.inr ⟨"PreparedPlans", List.mem_of_getElem? (i := 358) (by decide +kernel)⟩⟩
theorem f_X10_177 : x_FL RX10 177 9 0 .int false := ⟨_, _, _, _, cl_9, by decide, rfl, rfl, Or.inr ⟨"PreparedPlans", List.mem_of_getElem? (i := 303) (by decide +kernel)⟩⟩
theorem f_X10_182 : x_FL RX10 182 9 1 .int false := ⟨_, _, _, _, cl_9, by decide, rfl, rfl, Or.inr ⟨"PreparedPlans", List.mem_of_getElem? (i := 306) (by decide +kernel)⟩⟩
theorem f_X10_185 : x_FL RX10 185 9 2 .int false := ⟨_, _, _, _, cl_9, by decide, rfl, rfl, Or.inr ⟨"PreparedPlans", List.mem_of_getElem? (i := 309) (by decide +kernel)⟩⟩
theorem f_X10_188 : x_FL RX10 188 9 3 .int false := ⟨_, _, _, _, cl_9, by decide, rfl, rfl, Or.inr ⟨"PreparedPlans", List.mem_of_getElem? (i := 312) (by decide +kernel)⟩⟩
theorem f_X10_191 : x_FL RX10 191 9 4 .int false := ⟨_, _, _, _, cl_9, by decide, rfl, rfl, Or.inr ⟨"PreparedPlans", List.mem_of_getElem? (i := 314) (by decide +kernel)⟩⟩
theorem f_X10_198 : x_FL RX10 198 9 7 .int false := ⟨_, _, _, _, cl_9, by decide, rfl, rfl, Or.inr ⟨"PreparedPlans", List.mem_of_getElem? (i := 319) (by decide +kernel)⟩⟩
theorem f_X10_201 : x_FL RX10 201 9 8 (.array .int) true := ⟨_, _, _, _, cl_9, by decide, rfl, rfl, Or.inr ⟨"PreparedPlans", List.mem_of_getElem? (i := 322) (by decide +kernel)⟩⟩
theorem f_X10_260 : x_FL RX10 260 10 6 .int false := ⟨_, _, _, _, cl_10, by decide, rfl, rfl, Or.inl (x_in 380 (by decide +kernel) rfl)⟩
theorem f_X10_263 : x_FL RX10 263 10 5 .int false := ⟨_, _, _, _, cl_10, by decide, rfl, rfl, Or.inl (x_in 379 (by decide +kernel) rfl)⟩
theorem f_X0_9 : x_FL RX0 9 1 0 .int true := ⟨_, _, _, _, cl_1, by decide, rfl, rfl, Or.inl (x_in 959 (by decide +kernel) rfl)⟩
theorem f_X0_15 : x_FL RX0 15 1 1 .char true := ⟨_, _, _, _, cl_1, by decide, rfl, rfl, Or.inl (x_in 962 (by decide +kernel) rfl)⟩
theorem f_X0_19 : x_FL RX0 19 1 2 .int true := ⟨_, _, _, _, cl_1, by decide, rfl, rfl, Or.inl (x_in 964 (by decide +kernel) rfl)⟩
theorem f_X0_22 : x_FL RX0 22 1 3 .int true := ⟨_, _, _, _, cl_1, by decide, rfl, rfl, Or.inl (x_in 965 (by decide +kernel) rfl)⟩
theorem f_X0_25 : x_FL RX0 25 3 1 .int false := ⟨_, _, _, _, cl_3, by decide, rfl, rfl, Or.inr ⟨"PreparedPlans", List.mem_of_getElem? (i := 346) (by decide +kernel)⟩⟩
theorem f_X1_10 : x_FL RX1 10 2 1 (.object "java/util/ArrayList") true := ⟨_, _, _, _, cl_2, by decide, rfl, rfl, Or.inl (x_in 878 (by decide +kernel) rfl)⟩
theorem f_X1_16 : x_FL RX1 16 2 0 .int true := ⟨_, _, _, _, cl_2, by decide, rfl, rfl, Or.inl (x_in 877 (by decide +kernel) rfl)⟩
theorem f_X3_9 : x_FL RX3 9 3 3 (.array .int) true := ⟨_, _, _, _, cl_3, by decide, rfl, rfl, Or.inl (x_in 351 (by decide +kernel) rfl)⟩
theorem f_X3_15 : x_FL RX3 15 3 4 (.array .boolean) true := ⟨_, _, _, _, cl_3, by decide, rfl, rfl, Or.inl (x_in 352 (by decide +kernel) rfl)⟩
theorem f_X3_22 : x_FL RX3 22 3 5 (.object "PreparedPlans$Statistics") true := ⟨_, _, _, _, cl_3, by decide, rfl, rfl, Or.inl (x_in 355 (by decide +kernel) rfl)⟩
theorem f_X3_28 : x_FL RX3 28 3 6 (.array (.object "PreparedPlans$Usage")) true := ⟨_, _, _, _, cl_3, by decide, rfl, rfl, Or.inl (x_in 357 (by decide +kernel) rfl)⟩
theorem f_X3_32 : x_FL RX3 32 3 0 (.object "PreparedPlans$Setup") false := ⟨_, _, _, _, cl_3, by decide, rfl, rfl, Or.inl (x_in 343 (by decide +kernel) rfl)⟩
theorem f_X3_37 : x_FL RX3 37 3 1 .int false := ⟨_, _, _, _, cl_3, by decide, rfl, rfl, Or.inl (x_in 345 (by decide +kernel) rfl)⟩
theorem f_X3_41 : x_FL RX3 41 3 2 .int false := ⟨_, _, _, _, cl_3, by decide, rfl, rfl, Or.inl (x_in 349 (by decide +kernel) rfl)⟩
theorem f_X3_72 : x_FL RX3 72 7 0 .int false := ⟨_, _, _, _, cl_7, by decide, rfl, rfl, Or.inr ⟨"PreparedPlans", List.mem_of_getElem? (i := 275) (by decide +kernel)⟩⟩
theorem f_X3_73 : x_FL RX3 73 5 0 .int false := ⟨_, _, _, _, cl_5, by decide, rfl, rfl, Or.inr ⟨"PreparedPlans", List.mem_of_getElem? (i := 222) (by decide +kernel)⟩⟩
theorem f_X3_93 : x_FL RX3 93 7 1 (.array .int) true := ⟨_, _, _, _, cl_7, by decide, rfl, rfl, Or.inr ⟨"PreparedPlans", List.mem_of_getElem? (i := 278) (by decide +kernel)⟩⟩
theorem f_X3_96 : x_FL RX3 96 7 2 (.array .int) true := ⟨_, _, _, _, cl_7, by decide, rfl, rfl, Or.inr ⟨"PreparedPlans", List.mem_of_getElem? (i := 281) (by decide +kernel)⟩⟩
theorem f_X3_99 : x_FL RX3 99 7 3 (.array .int) true := ⟨_, _, _, _, cl_7, by decide, rfl, rfl, Or.inr ⟨"PreparedPlans", List.mem_of_getElem? (i := 284) (by decide +kernel)⟩⟩
theorem f_X3_102 : x_FL RX3 102 5 3 (.object "java/util/ArrayList") true := ⟨_, _, _, _, cl_5, by decide, rfl, rfl, Or.inr ⟨"PreparedPlans", List.mem_of_getElem? (i := 227) (by decide +kernel)⟩⟩
theorem f_X3_114 : x_FL RX3 114 4 1 (.object "PreparedPlans$Condition") true := ⟨_, _, _, _, cl_4, by decide, rfl, rfl, Or.inr ⟨"PreparedPlans", List.mem_of_getElem? (i := 988) (by decide +kernel)⟩⟩
theorem f_X3_124 : x_FL RX3 124 4 3 (.object "java/util/ArrayList") true := ⟨_, _, _, _, cl_4, by decide, rfl, rfl, Or.inr ⟨"PreparedPlans", List.mem_of_getElem? (i := 993) (by decide +kernel)⟩⟩
theorem f_X3_133 : x_FL RX3 133 1 0 .int true := ⟨_, _, _, _, cl_1, by decide, rfl, rfl, Or.inr ⟨"PreparedPlans", List.mem_of_getElem? (i := 961) (by decide +kernel)⟩⟩
theorem f_X3_140 : x_FL RX3 140 5 4 .int false := ⟨_, _, _, _, cl_5, by decide, rfl, rfl, Or.inr ⟨"PreparedPlans", List.mem_of_getElem? (i := 231) (by decide +kernel)⟩⟩
theorem f_X3_147 : x_FL RX3 147 9 8 (.array .int) true := ⟨_, _, _, _, cl_9, by decide, rfl, rfl, Or.inr ⟨"PreparedPlans", List.mem_of_getElem? (i := 323) (by decide +kernel)⟩⟩
theorem f_X3_150 : x_FL RX3 150 5 5 .int false := ⟨_, _, _, _, cl_5, by decide, rfl, rfl, Or.inr ⟨"PreparedPlans", List.mem_of_getElem? (i := 236) (by decide +kernel)⟩⟩
theorem f_X3_153 : x_FL RX3 153 5 6 .int false := ⟨_, _, _, _, cl_5, by decide, rfl, rfl, Or.inr ⟨"PreparedPlans", List.mem_of_getElem? (i := 240) (by decide +kernel)⟩⟩
theorem f_X3_160 : x_FL RX3 160 9 0 .int false := ⟨_, _, _, _, cl_9, by decide, rfl, rfl, Or.inr ⟨"PreparedPlans", List.mem_of_getElem? (i := 304) (by decide +kernel)⟩⟩
theorem f_X3_163 : x_FL RX3 163 5 7 .int false := ⟨_, _, _, _, cl_5, by decide, rfl, rfl, Or.inr ⟨"PreparedPlans", List.mem_of_getElem? (i := 244) (by decide +kernel)⟩⟩
theorem f_X3_184 : x_FL RX3 184 9 4 .int false := ⟨_, _, _, _, cl_9, by decide, rfl, rfl, Or.inr ⟨"PreparedPlans", List.mem_of_getElem? (i := 315) (by decide +kernel)⟩⟩
theorem f_X3_190 : x_FL RX3 190 9 1 .int false := ⟨_, _, _, _, cl_9, by decide, rfl, rfl, Or.inr ⟨"PreparedPlans", List.mem_of_getElem? (i := 307) (by decide +kernel)⟩⟩
theorem f_X3_193 : x_FL RX3 193 9 2 .int false := ⟨_, _, _, _, cl_9, by decide, rfl, rfl, Or.inr ⟨"PreparedPlans", List.mem_of_getElem? (i := 310) (by decide +kernel)⟩⟩
theorem f_X3_196 : x_FL RX3 196 9 7 .int false := ⟨_, _, _, _, cl_9, by decide, rfl, rfl, Or.inr ⟨"PreparedPlans", List.mem_of_getElem? (i := 320) (by decide +kernel)⟩⟩
theorem f_X4_10 : x_FL RX4 10 4 3 (.object "java/util/ArrayList") true := ⟨_, _, _, _, cl_4, by decide, rfl, rfl, Or.inl (x_in 992 (by decide +kernel) rfl)⟩
theorem f_X4_16 : x_FL RX4 16 4 0 .long true := ⟨_, _, _, _, cl_4, by decide, rfl, rfl, Or.inl (x_in 985 (by decide +kernel) rfl)⟩
theorem f_X4_20 : x_FL RX4 20 4 1 (.object "PreparedPlans$Condition") true := ⟨_, _, _, _, cl_4, by decide, rfl, rfl, Or.inl (x_in 987 (by decide +kernel) rfl)⟩
theorem f_X4_24 : x_FL RX4 24 4 2 (.array .int) true := ⟨_, _, _, _, cl_4, by decide, rfl, rfl, Or.inl (x_in 990 (by decide +kernel) rfl)⟩
theorem f_X5_9 : x_FL RX5 9 5 1 (.array .long) true := ⟨_, _, _, _, cl_5, by decide, rfl, rfl, Or.inl (x_in 223 (by decide +kernel) rfl)⟩
theorem f_X5_15 : x_FL RX5 15 5 2 (.array .int) true := ⟨_, _, _, _, cl_5, by decide, rfl, rfl, Or.inl (x_in 224 (by decide +kernel) rfl)⟩
theorem f_X5_22 : x_FL RX5 22 5 3 (.object "java/util/ArrayList") true := ⟨_, _, _, _, cl_5, by decide, rfl, rfl, Or.inl (x_in 225 (by decide +kernel) rfl)⟩
theorem f_X5_26 : x_FL RX5 26 5 4 .int false := ⟨_, _, _, _, cl_5, by decide, rfl, rfl, Or.inl (x_in 229 (by decide +kernel) rfl)⟩
theorem f_X5_30 : x_FL RX5 30 5 5 .int false := ⟨_, _, _, _, cl_5, by decide, rfl, rfl, Or.inl (x_in 233 (by decide +kernel) rfl)⟩
theorem f_X5_33 : x_FL RX5 33 5 6 .int false := ⟨_, _, _, _, cl_5, by decide, rfl, rfl, Or.inl (x_in 237 (by decide +kernel) rfl)⟩
theorem f_X5_36 : x_FL RX5 36 5 7 .int false := ⟨_, _, _, _, cl_5, by decide, rfl, rfl, Or.inl (x_in 241 (by decide +kernel) rfl)⟩
theorem f_X5_39 : x_FL RX5 39 5 0 .int false := ⟨_, _, _, _, cl_5, by decide, rfl, rfl, Or.inl (x_in 219 (by decide +kernel) rfl)⟩
theorem f_X5_52 : x_FL RX5 52 4 0 .long true := ⟨_, _, _, _, cl_4, by decide, rfl, rfl, Or.inr ⟨"PreparedPlans", List.mem_of_getElem? (i := 986) (by decide +kernel)⟩⟩
theorem f_X6_12 : x_FL RX6 12 6 2 (.object "PreparedPlans$Setup") true := ⟨_, _, _, _, cl_6, by decide, rfl, rfl, Or.inl (x_in 745 (by decide +kernel) rfl)⟩
theorem f_X6_18 : x_FL RX6 18 6 3 (.array .int) false := ⟨_, _, _, _, cl_6, by decide, rfl, rfl, Or.inl (x_in 746 (by decide +kernel) rfl)⟩
theorem f_X6_22 : x_FL RX6 22 6 5 .int false := ⟨_, _, _, _, cl_6, by decide, rfl, rfl, Or.inl (x_in 749 (by decide +kernel) rfl)⟩
theorem f_X6_26 : x_FL RX6 26 6 0 (.object "PreparedPlans$Tokens") true := ⟨_, _, _, _, cl_6, by decide, rfl, rfl, Or.inl (x_in 743 (by decide +kernel) rfl)⟩
theorem f_X6_30 : x_FL RX6 30 6 1 (.object "PreparedPlans$Data") true := ⟨_, _, _, _, cl_6, by decide, rfl, rfl, Or.inl (x_in 744 (by decide +kernel) rfl)⟩
theorem f_X6_85 : x_FL RX6 85 8 5 .int false := ⟨_, _, _, _, cl_8, by decide, rfl, rfl, Or.inr ⟨"PreparedPlans", List.mem_of_getElem? (i := 160) (by decide +kernel)⟩⟩
theorem f_X6_88 : x_FL RX6 88 8 6 .int false := ⟨_, _, _, _, cl_8, by decide, rfl, rfl, Or.inr ⟨"PreparedPlans", List.mem_of_getElem? (i := 161) (by decide +kernel)⟩⟩
theorem f_X6_98 : x_FL RX6 98 6 4 .int false := ⟨_, _, _, _, cl_6, by decide, rfl, rfl, Or.inl (x_in 747 (by decide +kernel) rfl)⟩
theorem f_X6_101 : x_FL RX6 101 8 3 .int false := ⟨_, _, _, _, cl_8, by decide, rfl, rfl, Or.inr ⟨"PreparedPlans", List.mem_of_getElem? (i := 157) (by decide +kernel)⟩⟩
theorem f_X6_104 : x_FL RX6 104 8 7 .long false := ⟨_, _, _, _, cl_8, by decide, rfl, rfl, Or.inr ⟨"PreparedPlans", List.mem_of_getElem? (i := 163) (by decide +kernel)⟩⟩
theorem f_X6_116 : x_FL RX6 116 5 0 .int false := ⟨_, _, _, _, cl_5, by decide, rfl, rfl, Or.inr ⟨"PreparedPlans", List.mem_of_getElem? (i := 221) (by decide +kernel)⟩⟩
theorem f_X6_136 : x_FL RX6 136 3 4 (.array .boolean) true := ⟨_, _, _, _, cl_3, by decide, rfl, rfl, Or.inr ⟨"PreparedPlans", List.mem_of_getElem? (i := 354) (by decide +kernel)⟩⟩
theorem f_X6_140 : x_FL RX6 140 3 1 .int false := ⟨_, _, _, _, cl_3, by decide, rfl, rfl, Or.inr ⟨"PreparedPlans", List.mem_of_getElem? (i := 348) (by decide +kernel)⟩⟩
theorem f_X6_157 : x_FL RX6 157 5 3 (.object "java/util/ArrayList") true := ⟨_, _, _, _, cl_5, by decide, rfl, rfl, Or.inr ⟨"PreparedPlans", List.mem_of_getElem? (i := 228) (by decide +kernel)⟩⟩
theorem f_X6_178 : x_FL RX6 178 4 1 (.object "PreparedPlans$Condition") true := ⟨_, _, _, _, cl_4, by decide, rfl, rfl, Or.inr ⟨"PreparedPlans", List.mem_of_getElem? (i := 989) (by decide +kernel)⟩⟩
theorem f_X6_182 : x_FL RX6 182 4 3 (.object "java/util/ArrayList") true := ⟨_, _, _, _, cl_4, by decide, rfl, rfl, Or.inr ⟨"PreparedPlans", List.mem_of_getElem? (i := 994) (by decide +kernel)⟩⟩
theorem f_X6_197 : x_FL RX6 197 5 4 .int false := ⟨_, _, _, _, cl_5, by decide, rfl, rfl, Or.inr ⟨"PreparedPlans", List.mem_of_getElem? (i := 232) (by decide +kernel)⟩⟩
theorem f_X6_200 : x_FL RX6 200 5 5 .int false := ⟨_, _, _, _, cl_5, by decide, rfl, rfl, Or.inr ⟨"PreparedPlans", List.mem_of_getElem? (i := 235) (by decide +kernel)⟩⟩
theorem f_X6_203 : x_FL RX6 203 5 6 .int false := ⟨_, _, _, _, cl_5, by decide, rfl, rfl, Or.inr ⟨"PreparedPlans", List.mem_of_getElem? (i := 239) (by decide +kernel)⟩⟩
theorem f_X6_208 : x_FL RX6 208 5 7 .int false := ⟨_, _, _, _, cl_5, by decide, rfl, rfl, Or.inr ⟨"PreparedPlans", List.mem_of_getElem? (i := 243) (by decide +kernel)⟩⟩
theorem f_X6_215 : x_FL RX6 215 2 1 (.object "java/util/ArrayList") true := ⟨_, _, _, _, cl_2, by decide, rfl, rfl, Or.inr ⟨"PreparedPlans", List.mem_of_getElem? (i := 879) (by decide +kernel)⟩⟩
theorem f_X7_9 : x_FL RX7 9 7 1 (.array .int) true := ⟨_, _, _, _, cl_7, by decide, rfl, rfl, Or.inl (x_in 276 (by decide +kernel) rfl)⟩
theorem f_X7_15 : x_FL RX7 15 7 2 (.array .int) true := ⟨_, _, _, _, cl_7, by decide, rfl, rfl, Or.inl (x_in 279 (by decide +kernel) rfl)⟩
theorem f_X7_18 : x_FL RX7 18 7 3 (.array .int) true := ⟨_, _, _, _, cl_7, by decide, rfl, rfl, Or.inl (x_in 282 (by decide +kernel) rfl)⟩
theorem f_X7_21 : x_FL RX7 21 7 0 .int false := ⟨_, _, _, _, cl_7, by decide, rfl, rfl, Or.inl (x_in 273 (by decide +kernel) rfl)⟩
theorem f_X7_31 : x_FL RX7 31 1 0 .int true := ⟨_, _, _, _, cl_1, by decide, rfl, rfl, Or.inr ⟨"PreparedPlans", List.mem_of_getElem? (i := 960) (by decide +kernel)⟩⟩
theorem f_X7_40 : x_FL RX7 40 1 1 .char true := ⟨_, _, _, _, cl_1, by decide, rfl, rfl, Or.inr ⟨"PreparedPlans", List.mem_of_getElem? (i := 963) (by decide +kernel)⟩⟩
theorem f_X8_9 : x_FL RX8 9 8 0 (.array .int) true := ⟨_, _, _, _, cl_8, by decide, rfl, rfl, Or.inl (x_in 153 (by decide +kernel) rfl)⟩
theorem f_X8_15 : x_FL RX8 15 8 1 (.array .int) true := ⟨_, _, _, _, cl_8, by decide, rfl, rfl, Or.inl (x_in 154 (by decide +kernel) rfl)⟩
theorem f_X8_18 : x_FL RX8 18 8 2 (.array .long) true := ⟨_, _, _, _, cl_8, by decide, rfl, rfl, Or.inl (x_in 155 (by decide +kernel) rfl)⟩
theorem f_X8_22 : x_FL RX8 22 8 5 .int false := ⟨_, _, _, _, cl_8, by decide, rfl, rfl, Or.inl (x_in 159 (by decide +kernel) rfl)⟩
theorem f_X8_26 : x_FL RX8 26 8 3 .int false := ⟨_, _, _, _, cl_8, by decide, rfl, rfl, Or.inl (x_in 156 (by decide +kernel) rfl)⟩
theorem f_X8_29 : x_FL RX8 29 8 4 .int false := ⟨_, _, _, _, cl_8, by decide, rfl, rfl, Or.inl (x_in 158 (by decide +kernel) rfl)⟩
theorem f_X8_74 : x_FL RX8 74 8 6 .int false := ⟨_, _, _, _, cl_8, by decide, rfl, rfl, Or.inl (x_in 162 (by decide +kernel) rfl)⟩
theorem f_X8_77 : x_FL RX8 77 8 7 .long false := ⟨_, _, _, _, cl_8, by decide, rfl, rfl, Or.inl (x_in 164 (by decide +kernel) rfl)⟩
theorem f_X9_9 : x_FL RX9 9 9 4 .int false := ⟨_, _, _, _, cl_9, by decide, rfl, rfl, Or.inl (x_in 313 (by decide +kernel) rfl)⟩
theorem f_X9_15 : x_FL RX9 15 9 8 (.array .int) true := ⟨_, _, _, _, cl_9, by decide, rfl, rfl, Or.inl (x_in 321 (by decide +kernel) rfl)⟩
theorem f_X9_19 : x_FL RX9 19 9 0 .int false := ⟨_, _, _, _, cl_9, by decide, rfl, rfl, Or.inl (x_in 302 (by decide +kernel) rfl)⟩
theorem f_X9_22 : x_FL RX9 22 9 1 .int false := ⟨_, _, _, _, cl_9, by decide, rfl, rfl, Or.inl (x_in 305 (by decide +kernel) rfl)⟩
theorem f_X9_25 : x_FL RX9 25 9 2 .int false := ⟨_, _, _, _, cl_9, by decide, rfl, rfl, Or.inl (x_in 308 (by decide +kernel) rfl)⟩
theorem f_X9_28 : x_FL RX9 28 9 3 .int false := ⟨_, _, _, _, cl_9, by decide, rfl, rfl, Or.inl (x_in 311 (by decide +kernel) rfl)⟩
theorem f_X9_31 : x_FL RX9 31 9 5 .int false := ⟨_, _, _, _, cl_9, by decide, rfl, rfl, Or.inl (x_in 316 (by decide +kernel) rfl)⟩
theorem f_X9_34 : x_FL RX9 34 9 6 .int false := ⟨_, _, _, _, cl_9, by decide, rfl, rfl, Or.inl (x_in 317 (by decide +kernel) rfl)⟩
theorem f_X9_37 : x_FL RX9 37 9 7 .int false := ⟨_, _, _, _, cl_9, by decide, rfl, rfl, Or.inl (x_in 318 (by decide +kernel) rfl)⟩
theorem f_X11_7 : x_FL RX11 7 11 1 (.array .int) true := ⟨_, _, _, _, cl_11, by decide, rfl, rfl, Or.inl (x_in 1274 (by decide +kernel) rfl)⟩
theorem f_X11_13 : x_FL RX11 13 11 2 (.array .int) true := ⟨_, _, _, _, cl_11, by decide, rfl, rfl, Or.inl (x_in 1275 (by decide +kernel) rfl)⟩
theorem f_X11_16 : x_FL RX11 16 11 5 (.array .int) true := ⟨_, _, _, _, cl_11, by decide, rfl, rfl, Or.inl (x_in 1278 (by decide +kernel) rfl)⟩
theorem f_X11_19 : x_FL RX11 19 11 7 .int false := ⟨_, _, _, _, cl_11, by decide, rfl, rfl, Or.inl (x_in 1280 (by decide +kernel) rfl)⟩
theorem f_X11_23 : x_FL RX11 23 11 17 (.array .int) true := ⟨_, _, _, _, cl_11, by decide, rfl, rfl, Or.inl (x_in 1290 (by decide +kernel) rfl)⟩
theorem f_X11_26 : x_FL RX11 26 11 18 (.array .boolean) true := ⟨_, _, _, _, cl_11, by decide, rfl, rfl, Or.inl (x_in 1291 (by decide +kernel) rfl)⟩
theorem f_X11_37 : x_FL RX11 37 11 0 .int false := ⟨_, _, _, _, cl_11, by decide, rfl, rfl, Or.inl (x_in 1273 (by decide +kernel) rfl)⟩
theorem f_X11_40 : x_FL RX11 40 11 3 .int false := ⟨_, _, _, _, cl_11, by decide, rfl, rfl, Or.inl (x_in 1276 (by decide +kernel) rfl)⟩
theorem f_X11_43 : x_FL RX11 43 11 4 .int false := ⟨_, _, _, _, cl_11, by decide, rfl, rfl, Or.inl (x_in 1277 (by decide +kernel) rfl)⟩
theorem f_X11_60 : x_FL RX11 60 11 6 .int false := ⟨_, _, _, _, cl_11, by decide, rfl, rfl, Or.inl (x_in 1279 (by decide +kernel) rfl)⟩
theorem f_X11_63 : x_FL RX11 63 11 10 .int false := ⟨_, _, _, _, cl_11, by decide, rfl, rfl, Or.inl (x_in 1283 (by decide +kernel) rfl)⟩
theorem f_X11_66 : x_FL RX11 66 11 11 .int false := ⟨_, _, _, _, cl_11, by decide, rfl, rfl, Or.inl (x_in 1284 (by decide +kernel) rfl)⟩
theorem f_X11_69 : x_FL RX11 69 11 9 .int false := ⟨_, _, _, _, cl_11, by decide, rfl, rfl, Or.inl (x_in 1282 (by decide +kernel) rfl)⟩
theorem f_X11_72 : x_FL RX11 72 11 8 .int false := ⟨_, _, _, _, cl_11, by decide, rfl, rfl, Or.inl (x_in 1281 (by decide +kernel) rfl)⟩
theorem f_X11_106 : x_FL RX11 106 11 12 .int false := ⟨_, _, _, _, cl_11, by decide, rfl, rfl, Or.inl (x_in 1285 (by decide +kernel) rfl)⟩
theorem f_X11_125 : x_FL RX11 125 11 14 .int false := ⟨_, _, _, _, cl_11, by decide, rfl, rfl, Or.inl (x_in 1287 (by decide +kernel) rfl)⟩
theorem f_X11_128 : x_FL RX11 128 11 15 .int false := ⟨_, _, _, _, cl_11, by decide, rfl, rfl, Or.inl (x_in 1288 (by decide +kernel) rfl)⟩
theorem f_X11_158 : x_FL RX11 158 11 13 .int false := ⟨_, _, _, _, cl_11, by decide, rfl, rfl, Or.inl (x_in 1286 (by decide +kernel) rfl)⟩
theorem f_X11_188 : x_FL RX11 188 11 16 .int false := ⟨_, _, _, _, cl_11, by decide, rfl, rfl, Or.inl (x_in 1289 (by decide +kernel) rfl)⟩
theorem f_X11_359 : x_FL RX11 359 11 19 .long false := ⟨_, _, _, _, cl_11, by decide, rfl, rfl, Or.inl (x_in 1292 (by decide +kernel) rfl)⟩
theorem n_X10_17 : x_CN RX10 17 8 RX8 TX8 8 tyX8 := ⟨cl_8, x_in 147 (by decide +kernel) rfl, x_in 148 (by decide +kernel) rfl, x_in 109 (by decide +kernel) rfl⟩
theorem n_X10_24 : x_CN RX10 24 3 RX3 TX3 7 tyX3 := ⟨cl_3, x_in 185 (by decide +kernel) rfl, x_in 262 (by decide +kernel) rfl, x_in 114 (by decide +kernel) rfl⟩
theorem n_X10_30 : x_CN RX10 30 5 RX5 TX5 8 tyX5 := ⟨cl_5, x_in 187 (by decide +kernel) rfl, x_in 188 (by decide +kernel) rfl, x_in 110 (by decide +kernel) rfl⟩
theorem n_X10_50 : x_CN RX10 50 6 RX6 TX6 6 tyX6 := ⟨cl_6, x_in 735 (by decide +kernel) rfl, x_in 736 (by decide +kernel) rfl, x_in 127 (by decide +kernel) rfl⟩
theorem n_X1_7 : x_CN RX1 7 0 RJx4a65c TJx4a65c 3 tyJx4a65c := ⟨cl_0, x_in 875 (by decide +kernel) rfl, x_in 194 (by decide +kernel) rfl, x_in 113 (by decide +kernel) rfl⟩
theorem n_X3_19 : x_CN RX3 19 7 RX7 TX7 4 tyX7 := ⟨cl_7, x_in 267 (by decide +kernel) rfl, x_in 268 (by decide +kernel) rfl, x_in 115 (by decide +kernel) rfl⟩
theorem n_X3_26 : x_CN RX3 26 9 RX9 TX9 9 tyX9 := ⟨cl_9, x_in 295 (by decide +kernel) rfl, x_in 297 (by decide +kernel) rfl, x_in 116 (by decide +kernel) rfl⟩
theorem n_X4_7 : x_CN RX4 7 0 RJx4a65c TJx4a65c 3 tyJx4a65c := ⟨cl_0, x_in 983 (by decide +kernel) rfl, x_in 194 (by decide +kernel) rfl, x_in 113 (by decide +kernel) rfl⟩
theorem n_X5_19 : x_CN RX5 19 0 RJx4a65c TJx4a65c 3 tyJx4a65c := ⟨cl_0, x_in 193 (by decide +kernel) rfl, x_in 194 (by decide +kernel) rfl, x_in 113 (by decide +kernel) rfl⟩
theorem n_X6_9 : x_CN RX6 9 5 RX5 TX5 8 tyX5 := ⟨cl_5, x_in 741 (by decide +kernel) rfl, x_in 188 (by decide +kernel) rfl, x_in 110 (by decide +kernel) rfl⟩
theorem n_X6_169 : x_CN RX6 169 4 RX4 TX4 4 tyX4 := ⟨cl_4, x_in 860 (by decide +kernel) rfl, x_in 861 (by decide +kernel) rfl, x_in 129 (by decide +kernel) rfl⟩
theorem n_X6_210 : x_CN RX6 210 2 RX1 TX1 2 tyX1 := ⟨cl_2, x_in 866 (by decide +kernel) rfl, x_in 867 (by decide +kernel) rfl, x_in 131 (by decide +kernel) rfl⟩
theorem n_X6_228 : x_CN RX6 228 1 RX0 TX0 4 tyX0 := ⟨cl_1, x_in 953 (by decide +kernel) rfl, x_in 954 (by decide +kernel) rfl, x_in 135 (by decide +kernel) rfl⟩
theorem n_L_8 : x_CN RL 8 10 RX10 TX10 7 tyX10 := ⟨cl_10, x_in 139 (by decide +kernel) rfl, x_in 140 (by decide +kernel) rfl, x_in 108 (by decide +kernel) rfl⟩
theorem n_L_76 : x_CN RL 76 11 RX11 TX11 20 tyX11 := ⟨cl_11, x_in 1259 (by decide +kernel) rfl, x_in 1260 (by decide +kernel) rfl, x_in 117 (by decide +kernel) rfl⟩
end
section
/-! links -/
theorem wX8_init : x_Cw mX8_init 0 := ⟨x_in 151 (by decide +kernel) rfl, x_in 109 (by decide +kernel) rfl, ⟨by decide, by decide⟩, by decide +kernel⟩
theorem l_X10_X8_init : x_LIN RX10 19 0 mX8_init "PreparedPlans" := ⟨wX8_init, rfl, rfl, rfl, x_in 150 (by decide +kernel) rfl, List.mem_of_getElem? (i := 149) (by decide +kernel)⟩
theorem wX5_init : x_Cw mX5_init 0 := ⟨x_in 191 (by decide +kernel) rfl, x_in 110 (by decide +kernel) rfl, ⟨by decide, by decide⟩, by decide +kernel⟩
theorem l_X10_X5_init : x_LIN RX10 32 0 mX5_init "PreparedPlans" := ⟨wX5_init, rfl, rfl, rfl, x_in 190 (by decide +kernel) rfl, List.mem_of_getElem? (i := 189) (by decide +kernel)⟩
theorem wX3_init : x_Cw mX3_init 1 := ⟨x_in 265 (by decide +kernel) rfl, x_in 114 (by decide +kernel) rfl, ⟨by decide, by decide⟩, by decide +kernel⟩
theorem l_X10_X3_init : x_LI RX10 33 1 mX3_init := ⟨wX3_init, rfl, rfl, rfl, x_in 264 (by decide +kernel) rfl, x_in 263 (by decide +kernel) rfl⟩
theorem wX10_appendWord : x_Cw mX10_appendWord 1 := ⟨x_in 403 (by decide +kernel) rfl, x_in 108 (by decide +kernel) rfl, ⟨by decide, by decide⟩, by decide +kernel⟩
theorem l_X10_X10_appendWord : x_LV RX10 39 1 mX10_appendWord := ⟨wX10_appendWord, rfl, x_in 400 (by decide +kernel) rfl, x_in 402 (by decide +kernel) rfl, x_in 0 (by decide +kernel) rfl⟩
theorem wX10_checkLength : x_Cw mX10_checkLength 1 := ⟨x_in 649 (by decide +kernel) rfl, x_in 108 (by decide +kernel) rfl, ⟨by decide, by decide⟩, by decide +kernel⟩
theorem l_X10_X10_checkLength : x_LV RX10 43 1 mX10_checkLength := ⟨wX10_checkLength, rfl, x_in 646 (by decide +kernel) rfl, x_in 648 (by decide +kernel) rfl, x_in 12 (by decide +kernel) rfl⟩
theorem wX8_split : x_Cw mX8_split 2 := ⟨x_in 654 (by decide +kernel) rfl, x_in 109 (by decide +kernel) rfl, ⟨by decide, by decide⟩, by decide +kernel⟩
theorem l_X10_X8_split : x_LV RX10 46 2 mX8_split := ⟨wX8_split, rfl, x_in 651 (by decide +kernel) rfl, x_in 652 (by decide +kernel) rfl, x_in 653 (by decide +kernel) rfl⟩
theorem wX10_spareSlot : x_Cw mX10_spareSlot 0 := ⟨x_in 419 (by decide +kernel) rfl, x_in 108 (by decide +kernel) rfl, ⟨by decide, by decide⟩, by decide +kernel⟩
theorem l_X10_X10_spareSlot : x_LV RX10 52 0 mX10_spareSlot := ⟨wX10_spareSlot, rfl, x_in 416 (by decide +kernel) rfl, x_in 418 (by decide +kernel) rfl, x_in 2 (by decide +kernel) rfl⟩
theorem wX6_init : x_Cw mX6_init 2 := ⟨x_in 739 (by decide +kernel) rfl, x_in 127 (by decide +kernel) rfl, ⟨by decide, by decide⟩, by decide +kernel⟩
theorem l_X10_X6_init : x_LI RX10 56 2 mX6_init := ⟨wX6_init, rfl, rfl, rfl, x_in 738 (by decide +kernel) rfl, x_in 737 (by decide +kernel) rfl⟩
theorem wX6_readSetup : x_Cw mX6_readSetup 0 := ⟨x_in 767 (by decide +kernel) rfl, x_in 127 (by decide +kernel) rfl, ⟨by decide, by decide⟩, by decide +kernel⟩
theorem l_X10_X6_readSetup : x_LV RX10 59 0 mX6_readSetup := ⟨wX6_readSetup, rfl, x_in 764 (by decide +kernel) rfl, x_in 765 (by decide +kernel) rfl, x_in 766 (by decide +kernel) rfl⟩
theorem wX10_takeSpare : x_Cw mX10_takeSpare 0 := ⟨x_in 469 (by decide +kernel) rfl, x_in 108 (by decide +kernel) rfl, ⟨by decide, by decide⟩, by decide +kernel⟩
theorem l_X10_X10_takeSpare : x_LV RX10 68 0 mX10_takeSpare := ⟨wX10_takeSpare, rfl, x_in 466 (by decide +kernel) rfl, x_in 468 (by decide +kernel) rfl, x_in 6 (by decide +kernel) rfl⟩
theorem wX10_current : x_Cw mX10_current 0 := ⟨x_in 423 (by decide +kernel) rfl, x_in 108 (by decide +kernel) rfl, ⟨by decide, by decide⟩, by decide +kernel⟩
theorem l_X10_X10_current : x_LV RX10 71 0 mX10_current := ⟨wX10_current, rfl, x_in 420 (by decide +kernel) rfl, x_in 422 (by decide +kernel) rfl, x_in 3 (by decide +kernel) rfl⟩
theorem wX10_checkColumn : x_Cw mX10_checkColumn 1 := ⟨x_in 562 (by decide +kernel) rfl, x_in 108 (by decide +kernel) rfl, ⟨by decide, by decide⟩, by decide +kernel⟩
theorem l_X10_X10_checkColumn : x_LV RX10 123 1 mX10_checkColumn := ⟨wX10_checkColumn, rfl, x_in 559 (by decide +kernel) rfl, x_in 561 (by decide +kernel) rfl, x_in 8 (by decide +kernel) rfl⟩
theorem wX5_typeOf : x_Cw mX5_typeOf 1 := ⟨x_in 582 (by decide +kernel) rfl, x_in 110 (by decide +kernel) rfl, ⟨by decide, by decide⟩, by decide +kernel⟩
theorem l_X10_X5_typeOf : x_LV RX10 126 1 mX5_typeOf := ⟨wX5_typeOf, rfl, x_in 579 (by decide +kernel) rfl, x_in 580 (by decide +kernel) rfl, x_in 581 (by decide +kernel) rfl⟩
theorem wX10_checkRow : x_Cw mX10_checkRow 1 := ⟨x_in 590 (by decide +kernel) rfl, x_in 108 (by decide +kernel) rfl, ⟨by decide, by decide⟩, by decide +kernel⟩
theorem l_X10_X10_checkRow : x_LV RX10 144 1 mX10_checkRow := ⟨wX10_checkRow, rfl, x_in 587 (by decide +kernel) rfl, x_in 589 (by decide +kernel) rfl, x_in 9 (by decide +kernel) rfl⟩
theorem wX3_cell : x_Cw mX3_cell 2 := ⟨x_in 452 (by decide +kernel) rfl, x_in 114 (by decide +kernel) rfl, ⟨by decide, by decide⟩, by decide +kernel⟩
theorem l_X10_X3_cell : x_LV RX10 147 2 mX3_cell := ⟨wX3_cell, rfl, x_in 592 (by decide +kernel) rfl, x_in 450 (by decide +kernel) rfl, x_in 451 (by decide +kernel) rfl⟩
theorem wX10_nameIn : x_Cw mX10_nameIn 3 := ⟨x_in 664 (by decide +kernel) rfl, x_in 108 (by decide +kernel) rfl, ⟨by decide, by decide⟩, by decide +kernel⟩
theorem l_X10_X10_nameIn : x_LS RX10 151 3 mX10_nameIn := ⟨wX10_nameIn, rfl, x_in 663 (by decide +kernel) rfl, x_in 1049 (by decide +kernel) rfl⟩
theorem wX5_findStatement : x_Cw mX5_findStatement 1 := ⟨x_in 856 (by decide +kernel) rfl, x_in 110 (by decide +kernel) rfl, ⟨by decide, by decide⟩, by decide +kernel⟩
theorem l_X10_X5_findStatement : x_LV RX10 155 1 mX5_findStatement := ⟨wX5_findStatement, rfl, x_in 1050 (by decide +kernel) rfl, x_in 854 (by decide +kernel) rfl, x_in 855 (by decide +kernel) rfl⟩
theorem wX10_checkStatement : x_Cw mX10_checkStatement 1 := ⟨x_in 604 (by decide +kernel) rfl, x_in 108 (by decide +kernel) rfl, ⟨by decide, by decide⟩, by decide +kernel⟩
theorem l_X10_X10_checkStatement : x_LV RX10 159 1 mX10_checkStatement := ⟨wX10_checkStatement, rfl, x_in 601 (by decide +kernel) rfl, x_in 603 (by decide +kernel) rfl, x_in 11 (by decide +kernel) rfl⟩
theorem wX9_keepsFreshPlan : x_Cw mX9_keepsFreshPlan 1 := ⟨x_in 609 (by decide +kernel) rfl, x_in 116 (by decide +kernel) rfl, ⟨by decide, by decide⟩, by decide +kernel⟩
theorem l_X10_X9_keepsFreshPlan : x_LV RX10 194 1 mX9_keepsFreshPlan := ⟨wX9_keepsFreshPlan, rfl, x_in 606 (by decide +kernel) rfl, x_in 607 (by decide +kernel) rfl, x_in 608 (by decide +kernel) rfl⟩
theorem wX10_checkPlan : x_Cw mX10_checkPlan 1 := ⟨x_in 1077 (by decide +kernel) rfl, x_in 108 (by decide +kernel) rfl, ⟨by decide, by decide⟩, by decide +kernel⟩
theorem l_X10_X10_checkPlan : x_LV RX10 204 1 mX10_checkPlan := ⟨wX10_checkPlan, rfl, x_in 1074 (by decide +kernel) rfl, x_in 1076 (by decide +kernel) rfl, x_in 37 (by decide +kernel) rfl⟩
theorem wX3_costOf : x_Cw mX3_costOf 3 := ⟨x_in 1084 (by decide +kernel) rfl, x_in 114 (by decide +kernel) rfl, ⟨by decide, by decide⟩, by decide +kernel⟩
theorem l_X10_X3_costOf : x_LV RX10 210 3 mX3_costOf := ⟨wX3_costOf, rfl, x_in 1081 (by decide +kernel) rfl, x_in 1082 (by decide +kernel) rfl, x_in 1083 (by decide +kernel) rfl⟩
theorem wX10_checkedValues : x_Cw mX10_checkedValues 5 := ⟨x_in 1117 (by decide +kernel) rfl, x_in 108 (by decide +kernel) rfl, ⟨by decide, by decide⟩, by decide +kernel⟩
theorem l_X10_X10_checkedValues : x_LV RX10 214 5 mX10_checkedValues := ⟨wX10_checkedValues, rfl, x_in 1114 (by decide +kernel) rfl, x_in 1116 (by decide +kernel) rfl, x_in 40 (by decide +kernel) rfl⟩
theorem wX3_bestPlan : x_Cw mX3_bestPlan 2 := ⟨x_in 1126 (by decide +kernel) rfl, x_in 114 (by decide +kernel) rfl, ⟨by decide, by decide⟩, by decide +kernel⟩
theorem l_X10_X3_bestPlan : x_LV RX10 218 2 mX3_bestPlan := ⟨wX3_bestPlan, rfl, x_in 1123 (by decide +kernel) rfl, x_in 1124 (by decide +kernel) rfl, x_in 1125 (by decide +kernel) rfl⟩
theorem wX10_spareCopy : x_Cw mX10_spareCopy 0 := ⟨x_in 415 (by decide +kernel) rfl, x_in 108 (by decide +kernel) rfl, ⟨by decide, by decide⟩, by decide +kernel⟩
theorem l_X10_X10_spareCopy : x_LV RX10 222 0 mX10_spareCopy := ⟨wX10_spareCopy, rfl, x_in 412 (by decide +kernel) rfl, x_in 414 (by decide +kernel) rfl, x_in 1 (by decide +kernel) rfl⟩
theorem wX3_choosePlan : x_Cw mX3_choosePlan 2 := ⟨x_in 1145 (by decide +kernel) rfl, x_in 114 (by decide +kernel) rfl, ⟨by decide, by decide⟩, by decide +kernel⟩
theorem l_X10_X3_choosePlan : x_LV RX10 225 2 mX3_choosePlan := ⟨wX3_choosePlan, rfl, x_in 1142 (by decide +kernel) rfl, x_in 1143 (by decide +kernel) rfl, x_in 1144 (by decide +kernel) rfl⟩
theorem wX3_findRows : x_Cw mX3_findRows 2 := ⟨x_in 1167 (by decide +kernel) rfl, x_in 114 (by decide +kernel) rfl, ⟨by decide, by decide⟩, by decide +kernel⟩
theorem l_X10_X3_findRows : x_LV RX10 228 2 mX3_findRows := ⟨wX3_findRows, rfl, x_in 1164 (by decide +kernel) rfl, x_in 1165 (by decide +kernel) rfl, x_in 1166 (by decide +kernel) rfl⟩
theorem wX3_execute : x_Cw mX3_execute 2 := ⟨x_in 1199 (by decide +kernel) rfl, x_in 114 (by decide +kernel) rfl, ⟨by decide, by decide⟩, by decide +kernel⟩
theorem l_X10_X3_execute : x_LV RX10 232 2 mX3_execute := ⟨wX3_execute, rfl, x_in 1196 (by decide +kernel) rfl, x_in 1197 (by decide +kernel) rfl, x_in 1198 (by decide +kernel) rfl⟩
theorem wX10_checkRange : x_Cw mX10_checkRange 2 := ⟨x_in 1120 (by decide +kernel) rfl, x_in 108 (by decide +kernel) rfl, ⟨by decide, by decide⟩, by decide +kernel⟩
theorem l_X10_X10_checkRange : x_LS RX10 241 2 mX10_checkRange := ⟨wX10_checkRange, rfl, x_in 1119 (by decide +kernel) rfl, x_in 1118 (by decide +kernel) rfl⟩
theorem wX3_putCell : x_Cw mX3_putCell 3 := ⟨x_in 846 (by decide +kernel) rfl, x_in 114 (by decide +kernel) rfl, ⟨by decide, by decide⟩, by decide +kernel⟩
theorem l_X10_X3_putCell : x_LV RX10 250 3 mX3_putCell := ⟨wX3_putCell, rfl, x_in 1239 (by decide +kernel) rfl, x_in 844 (by decide +kernel) rfl, x_in 845 (by decide +kernel) rfl⟩
theorem wX3_removeRow : x_Cw mX3_removeRow 1 := ⟨x_in 1250 (by decide +kernel) rfl, x_in 114 (by decide +kernel) rfl, ⟨by decide, by decide⟩, by decide +kernel⟩
theorem l_X10_X3_removeRow : x_LV RX10 254 1 mX3_removeRow := ⟨wX3_removeRow, rfl, x_in 1247 (by decide +kernel) rfl, x_in 1248 (by decide +kernel) rfl, x_in 1249 (by decide +kernel) rfl⟩
theorem wX3_takeStatistics : x_Cw mX3_takeStatistics 0 := ⟨x_in 444 (by decide +kernel) rfl, x_in 114 (by decide +kernel) rfl, ⟨by decide, by decide⟩, by decide +kernel⟩
theorem l_X10_X3_takeStatistics : x_LV RX10 257 0 mX3_takeStatistics := ⟨wX3_takeStatistics, rfl, x_in 441 (by decide +kernel) rfl, x_in 442 (by decide +kernel) rfl, x_in 443 (by decide +kernel) rfl⟩
theorem wX10_count : x_Cw mX10_count 1 := ⟨x_in 483 (by decide +kernel) rfl, x_in 108 (by decide +kernel) rfl, ⟨by decide, by decide⟩, by decide +kernel⟩
theorem l_X10_X10_count : x_LV RX10 268 1 mX10_count := ⟨wX10_count, rfl, x_in 480 (by decide +kernel) rfl, x_in 481 (by decide +kernel) rfl, x_in 482 (by decide +kernel) rfl⟩
theorem wX10_column : x_Cw mX10_column 2 := ⟨x_in 558 (by decide +kernel) rfl, x_in 108 (by decide +kernel) rfl, ⟨by decide, by decide⟩, by decide +kernel⟩
theorem l_X10_X10_column : x_LV RX10 271 2 mX10_column := ⟨wX10_column, rfl, x_in 555 (by decide +kernel) rfl, x_in 556 (by decide +kernel) rfl, x_in 557 (by decide +kernel) rfl⟩
theorem wX10_value : x_Cw mX10_value 2 := ⟨x_in 586 (by decide +kernel) rfl, x_in 108 (by decide +kernel) rfl, ⟨by decide, by decide⟩, by decide +kernel⟩
theorem l_X10_X10_value : x_LV RX10 274 2 mX10_value := ⟨wX10_value, rfl, x_in 583 (by decide +kernel) rfl, x_in 584 (by decide +kernel) rfl, x_in 585 (by decide +kernel) rfl⟩
theorem wX10_addStatement : x_Cw mX10_addStatement 2 := ⟨x_in 596 (by decide +kernel) rfl, x_in 108 (by decide +kernel) rfl, ⟨by decide, by decide⟩, by decide +kernel⟩
theorem l_X10_X10_addStatement : x_LV RX10 277 2 mX10_addStatement := ⟨wX10_addStatement, rfl, x_in 593 (by decide +kernel) rfl, x_in 595 (by decide +kernel) rfl, x_in 10 (by decide +kernel) rfl⟩
theorem wX10_statement : x_Cw mX10_statement 2 := ⟨x_in 600 (by decide +kernel) rfl, x_in 108 (by decide +kernel) rfl, ⟨by decide, by decide⟩, by decide +kernel⟩
theorem l_X10_X10_statement : x_LV RX10 281 2 mX10_statement := ⟨wX10_statement, rfl, x_in 597 (by decide +kernel) rfl, x_in 598 (by decide +kernel) rfl, x_in 599 (by decide +kernel) rfl⟩
theorem wX10_kept : x_Cw mX10_kept 1 := ⟨x_in 613 (by decide +kernel) rfl, x_in 108 (by decide +kernel) rfl, ⟨by decide, by decide⟩, by decide +kernel⟩
theorem l_X10_X10_kept : x_LV RX10 284 1 mX10_kept := ⟨wX10_kept, rfl, x_in 610 (by decide +kernel) rfl, x_in 611 (by decide +kernel) rfl, x_in 612 (by decide +kernel) rfl⟩
theorem wX10_hole : x_Cw mX10_hole 2 := ⟨x_in 617 (by decide +kernel) rfl, x_in 108 (by decide +kernel) rfl, ⟨by decide, by decide⟩, by decide +kernel⟩
theorem l_X10_X10_hole : x_LV RX10 287 2 mX10_hole := ⟨wX10_hole, rfl, x_in 614 (by decide +kernel) rfl, x_in 615 (by decide +kernel) rfl, x_in 616 (by decide +kernel) rfl⟩
theorem wX10_learned : x_Cw mX10_learned 2 := ⟨x_in 637 (by decide +kernel) rfl, x_in 108 (by decide +kernel) rfl, ⟨by decide, by decide⟩, by decide +kernel⟩
theorem l_X10_X10_learned : x_LV RX10 290 2 mX10_learned := ⟨wX10_learned, rfl, x_in 634 (by decide +kernel) rfl, x_in 635 (by decide +kernel) rfl, x_in 636 (by decide +kernel) rfl⟩
theorem wX3_copyFrom : x_Cw mX3_copyFrom 1 := ⟨x_in 427 (by decide +kernel) rfl, x_in 114 (by decide +kernel) rfl, ⟨by decide, by decide⟩, by decide +kernel⟩
theorem l_X10_X3_copyFrom : x_LV RX10 293 1 mX3_copyFrom := ⟨wX3_copyFrom, rfl, x_in 424 (by decide +kernel) rfl, x_in 425 (by decide +kernel) rfl, x_in 426 (by decide +kernel) rfl⟩
theorem wX10_greatestOf : x_Cw mX10_greatestOf 1 := ⟨x_in 838 (by decide +kernel) rfl, x_in 108 (by decide +kernel) rfl, ⟨by decide, by decide⟩, by decide +kernel⟩
theorem l_X10_X10_greatestOf : x_LS RX10 315 1 mX10_greatestOf := ⟨wX10_greatestOf, rfl, x_in 837 (by decide +kernel) rfl, x_in 1121 (by decide +kernel) rfl⟩
theorem wX10_isLetter : x_Cw mX10_isLetter 1 := ⟨x_in 657 (by decide +kernel) rfl, x_in 108 (by decide +kernel) rfl, ⟨by decide, by decide⟩, by decide +kernel⟩
theorem l_X10_X10_isLetter : x_LS RX10 320 1 mX10_isLetter := ⟨wX10_isLetter, rfl, x_in 656 (by decide +kernel) rfl, x_in 665 (by decide +kernel) rfl⟩
theorem wX2_init : x_Cw mX2_init 0 := ⟨x_in 873 (by decide +kernel) rfl, x_in 130 (by decide +kernel) rfl, ⟨by decide, by decide⟩, by decide +kernel⟩
theorem l_X0_X2_init : x_LIN RX0 3 0 mX2_init "PreparedPlans" := ⟨wX2_init, rfl, rfl, rfl, x_in 872 (by decide +kernel) rfl, List.mem_of_getElem? (i := 958) (by decide +kernel)⟩
theorem l_X0_X3_cell : x_LV RX0 30 2 mX3_cell := ⟨wX3_cell, rfl, x_in 1174 (by decide +kernel) rfl, x_in 450 (by decide +kernel) rfl, x_in 451 (by decide +kernel) rfl⟩
theorem wX0_valueWith : x_Cw mX0_valueWith 1 := ⟨x_in 1100 (by decide +kernel) rfl, x_in 135 (by decide +kernel) rfl, ⟨by decide, by decide⟩, by decide +kernel⟩
theorem l_X0_X0_valueWith : x_LV RX0 34 1 mX0_valueWith := ⟨wX0_valueWith, rfl, x_in 1175 (by decide +kernel) rfl, x_in 1098 (by decide +kernel) rfl, x_in 1099 (by decide +kernel) rfl⟩
theorem wX0_holds : x_Cw mX0_holds 2 := ⟨x_in 1179 (by decide +kernel) rfl, x_in 135 (by decide +kernel) rfl, ⟨by decide, by decide⟩, by decide +kernel⟩
theorem l_X0_X0_holds : x_LV RX0 38 2 mX0_holds := ⟨wX0_holds, rfl, x_in 1176 (by decide +kernel) rfl, x_in 1178 (by decide +kernel) rfl, x_in 41 (by decide +kernel) rfl⟩
theorem l_X1_X2_init : x_LIN RX1 1 0 mX2_init "PreparedPlans" := ⟨wX2_init, rfl, rfl, rfl, x_in 872 (by decide +kernel) rfl, List.mem_of_getElem? (i := 871) (by decide +kernel)⟩
theorem wX3_allRows : x_Cw mX3_allRows 0 := ⟨x_in 1186 (by decide +kernel) rfl, x_in 114 (by decide +kernel) rfl, ⟨by decide, by decide⟩, by decide +kernel⟩
theorem l_X1_X3_allRows : x_LV RX1 20 0 mX3_allRows := ⟨wX3_allRows, rfl, x_in 1183 (by decide +kernel) rfl, x_in 1184 (by decide +kernel) rfl, x_in 1185 (by decide +kernel) rfl⟩
theorem wX0_matches : x_Cw mX0_matches 2 := ⟨x_in 1173 (by decide +kernel) rfl, x_in 135 (by decide +kernel) rfl, ⟨by decide, by decide⟩, by decide +kernel⟩
theorem lu_X1_X0_matches : x_LU RX1 34 2 ⟨"PreparedPlans$Condition", "matches", "(LPreparedPlans$Data;[I)J"⟩ mX0_matches := ⟨wX0_matches, rfl, x_in 1187 (by decide +kernel) rfl, x_in 1170 (by decide +kernel) rfl, x_in 1171 (by decide +kernel) rfl, x_in 1172 (by decide +kernel) rfl, List.mem_of_getElem? (i := 1169) (by decide +kernel), ⟨by decide, by decide⟩, rfl⟩
theorem wX1_matches : x_Cw mX1_matches 2 := ⟨x_in 1182 (by decide +kernel) rfl, x_in 131 (by decide +kernel) rfl, ⟨by decide, by decide⟩, by decide +kernel⟩
theorem lu_X1_X1_matches : x_LU RX1 34 2 ⟨"PreparedPlans$Condition", "matches", "(LPreparedPlans$Data;[I)J"⟩ mX1_matches := ⟨wX1_matches, rfl, x_in 1187 (by decide +kernel) rfl, x_in 1170 (by decide +kernel) rfl, x_in 1180 (by decide +kernel) rfl, x_in 1181 (by decide +kernel) rfl, List.mem_of_getElem? (i := 1169) (by decide +kernel), ⟨by decide, by decide⟩, rfl⟩
theorem wX0_addSargable : x_Cw mX0_addSargable 1 := ⟨x_in 1009 (by decide +kernel) rfl, x_in 135 (by decide +kernel) rfl, ⟨by decide, by decide⟩, by decide +kernel⟩
theorem lu_X1_X0_addSargable : x_LU RX1 40 1 ⟨"PreparedPlans$Condition", "addSargable", "(Ljava/util/ArrayList;)V"⟩ mX0_addSargable := ⟨wX0_addSargable, rfl, x_in 1017 (by decide +kernel) rfl, x_in 1006 (by decide +kernel) rfl, x_in 1007 (by decide +kernel) rfl, x_in 1008 (by decide +kernel) rfl, List.mem_of_getElem? (i := 1005) (by decide +kernel), ⟨by decide, by decide⟩, rfl⟩
theorem wX1_addSargable : x_Cw mX1_addSargable 1 := ⟨x_in 1013 (by decide +kernel) rfl, x_in 131 (by decide +kernel) rfl, ⟨by decide, by decide⟩, by decide +kernel⟩
theorem lu_X1_X1_addSargable : x_LU RX1 40 1 ⟨"PreparedPlans$Condition", "addSargable", "(Ljava/util/ArrayList;)V"⟩ mX1_addSargable := ⟨wX1_addSargable, rfl, x_in 1017 (by decide +kernel) rfl, x_in 1006 (by decide +kernel) rfl, x_in 1011 (by decide +kernel) rfl, x_in 1012 (by decide +kernel) rfl, List.mem_of_getElem? (i := 1005) (by decide +kernel), ⟨by decide, by decide⟩, rfl⟩
theorem wX7_init : x_Cw mX7_init 0 := ⟨x_in 271 (by decide +kernel) rfl, x_in 115 (by decide +kernel) rfl, ⟨by decide, by decide⟩, by decide +kernel⟩
theorem l_X3_X7_init : x_LIN RX3 21 0 mX7_init "PreparedPlans" := ⟨wX7_init, rfl, rfl, rfl, x_in 270 (by decide +kernel) rfl, List.mem_of_getElem? (i := 269) (by decide +kernel)⟩
theorem wX9_init : x_Cw mX9_init 0 := ⟨x_in 300 (by decide +kernel) rfl, x_in 116 (by decide +kernel) rfl, ⟨by decide, by decide⟩, by decide +kernel⟩
theorem l_X3_X9_init : x_LIN RX3 36 0 mX9_init "PreparedPlans" := ⟨wX9_init, rfl, rfl, rfl, x_in 299 (by decide +kernel) rfl, List.mem_of_getElem? (i := 298) (by decide +kernel)⟩
theorem wX9_clear : x_Cw mX9_clear 0 := ⟨x_in 775 (by decide +kernel) rfl, x_in 116 (by decide +kernel) rfl, ⟨by decide, by decide⟩, by decide +kernel⟩
theorem l_X3_X9_clear : x_LV RX3 44 0 mX9_clear := ⟨wX9_clear, rfl, x_in 772 (by decide +kernel) rfl, x_in 773 (by decide +kernel) rfl, x_in 774 (by decide +kernel) rfl⟩
theorem wX7_copyFrom : x_Cw mX7_copyFrom 1 := ⟨x_in 434 (by decide +kernel) rfl, x_in 115 (by decide +kernel) rfl, ⟨by decide, by decide⟩, by decide +kernel⟩
theorem l_X3_X7_copyFrom : x_LV RX3 53 1 mX7_copyFrom := ⟨wX7_copyFrom, rfl, x_in 431 (by decide +kernel) rfl, x_in 432 (by decide +kernel) rfl, x_in 433 (by decide +kernel) rfl⟩
theorem wX9_copyFrom : x_Cw mX9_copyFrom 1 := ⟨x_in 439 (by decide +kernel) rfl, x_in 116 (by decide +kernel) rfl, ⟨by decide, by decide⟩, by decide +kernel⟩
theorem l_X3_X9_copyFrom : x_LV RX3 57 1 mX9_copyFrom := ⟨wX9_copyFrom, rfl, x_in 436 (by decide +kernel) rfl, x_in 437 (by decide +kernel) rfl, x_in 438 (by decide +kernel) rfl⟩
theorem wX3_isCell : x_Cw mX3_isCell 2 := ⟨x_in 455 (by decide +kernel) rfl, x_in 114 (by decide +kernel) rfl, ⟨by decide, by decide⟩, by decide +kernel⟩
theorem l_X3_X3_isCell : x_LS RX3 60 2 mX3_isCell := ⟨wX3_isCell, rfl, x_in 454 (by decide +kernel) rfl, x_in 453 (by decide +kernel) rfl⟩
theorem l_X3_X3_cell : x_LV RX3 64 2 mX3_cell := ⟨wX3_cell, rfl, x_in 449 (by decide +kernel) rfl, x_in 450 (by decide +kernel) rfl, x_in 451 (by decide +kernel) rfl⟩
theorem l_X3_X3_putCell : x_LV RX3 68 3 mX3_putCell := ⟨wX3_putCell, rfl, x_in 1251 (by decide +kernel) rfl, x_in 844 (by decide +kernel) rfl, x_in 845 (by decide +kernel) rfl⟩
theorem wX3_takeStatisticsOf : x_Cw mX3_takeStatisticsOf 1 := ⟨x_in 448 (by decide +kernel) rfl, x_in 114 (by decide +kernel) rfl, ⟨by decide, by decide⟩, by decide +kernel⟩
theorem l_X3_X3_takeStatisticsOf : x_LV RX3 78 1 mX3_takeStatisticsOf := ⟨wX3_takeStatisticsOf, rfl, x_in 445 (by decide +kernel) rfl, x_in 447 (by decide +kernel) rfl, x_in 4 (by decide +kernel) rfl⟩
theorem wX3_isFirst : x_Cw mX3_isFirst 2 := ⟨x_in 465 (by decide +kernel) rfl, x_in 114 (by decide +kernel) rfl, ⟨by decide, by decide⟩, by decide +kernel⟩
theorem l_X3_X3_isFirst : x_LV RX3 90 2 mX3_isFirst := ⟨wX3_isFirst, rfl, x_in 462 (by decide +kernel) rfl, x_in 464 (by decide +kernel) rfl, x_in 5 (by decide +kernel) rfl⟩
theorem lu_X3_X0_matches : x_LU RX3 118 2 ⟨"PreparedPlans$Condition", "matches", "(LPreparedPlans$Data;[I)J"⟩ mX0_matches := ⟨wX0_matches, rfl, x_in 1168 (by decide +kernel) rfl, x_in 1170 (by decide +kernel) rfl, x_in 1171 (by decide +kernel) rfl, x_in 1172 (by decide +kernel) rfl, List.mem_of_getElem? (i := 1169) (by decide +kernel), ⟨by decide, by decide⟩, rfl⟩
theorem lu_X3_X1_matches : x_LU RX3 118 2 ⟨"PreparedPlans$Condition", "matches", "(LPreparedPlans$Data;[I)J"⟩ mX1_matches := ⟨wX1_matches, rfl, x_in 1168 (by decide +kernel) rfl, x_in 1170 (by decide +kernel) rfl, x_in 1180 (by decide +kernel) rfl, x_in 1181 (by decide +kernel) rfl, List.mem_of_getElem? (i := 1169) (by decide +kernel), ⟨by decide, by decide⟩, rfl⟩
theorem wX7_estimate : x_Cw mX7_estimate 2 := ⟨x_in 1096 (by decide +kernel) rfl, x_in 115 (by decide +kernel) rfl, ⟨by decide, by decide⟩, by decide +kernel⟩
theorem l_X3_X7_estimate : x_LV RX3 136 2 mX7_estimate := ⟨wX7_estimate, rfl, x_in 1093 (by decide +kernel) rfl, x_in 1094 (by decide +kernel) rfl, x_in 1095 (by decide +kernel) rfl⟩
theorem wX3_chosenFor : x_Cw mX3_chosenFor 3 := ⟨x_in 1088 (by decide +kernel) rfl, x_in 114 (by decide +kernel) rfl, ⟨by decide, by decide⟩, by decide +kernel⟩
theorem l_X3_X3_chosenFor : x_LV RX3 143 3 mX3_chosenFor := ⟨wX3_chosenFor, rfl, x_in 1085 (by decide +kernel) rfl, x_in 1087 (by decide +kernel) rfl, x_in 38 (by decide +kernel) rfl⟩
theorem l_X3_X3_costOf : x_LV RX3 156 3 mX3_costOf := ⟨wX3_costOf, rfl, x_in 1127 (by decide +kernel) rfl, x_in 1082 (by decide +kernel) rfl, x_in 1083 (by decide +kernel) rfl⟩
theorem l_X3_X9_keepsFreshPlan : x_LV RX3 166 1 mX9_keepsFreshPlan := ⟨wX9_keepsFreshPlan, rfl, x_in 1146 (by decide +kernel) rfl, x_in 607 (by decide +kernel) rfl, x_in 608 (by decide +kernel) rfl⟩
theorem l_X3_X3_bestPlan : x_LV RX3 173 2 mX3_bestPlan := ⟨wX3_bestPlan, rfl, x_in 1148 (by decide +kernel) rfl, x_in 1124 (by decide +kernel) rfl, x_in 1125 (by decide +kernel) rfl⟩
theorem wX9_keep : x_Cw mX9_keep 3 := ⟨x_in 1152 (by decide +kernel) rfl, x_in 116 (by decide +kernel) rfl, ⟨by decide, by decide⟩, by decide +kernel⟩
theorem l_X3_X9_keep : x_LV RX3 177 3 mX9_keep := ⟨wX9_keep, rfl, x_in 1149 (by decide +kernel) rfl, x_in 1150 (by decide +kernel) rfl, x_in 1151 (by decide +kernel) rfl⟩
theorem wX9_prefersKeptPlan : x_Cw mX9_prefersKeptPlan 0 := ⟨x_in 1156 (by decide +kernel) rfl, x_in 116 (by decide +kernel) rfl, ⟨by decide, by decide⟩, by decide +kernel⟩
theorem l_X3_X9_prefersKeptPlan : x_LV RX3 180 0 mX9_prefersKeptPlan := ⟨wX9_prefersKeptPlan, rfl, x_in 1153 (by decide +kernel) rfl, x_in 1154 (by decide +kernel) rfl, x_in 1155 (by decide +kernel) rfl⟩
theorem l_X3_X3_choosePlan : x_LV RX3 187 2 mX3_choosePlan := ⟨wX3_choosePlan, rfl, x_in 1200 (by decide +kernel) rfl, x_in 1143 (by decide +kernel) rfl, x_in 1144 (by decide +kernel) rfl⟩
theorem l_X3_X0_matches : x_LV RX3 199 2 mX0_matches := ⟨wX0_matches, rfl, x_in 1201 (by decide +kernel) rfl, x_in 1172 (by decide +kernel) rfl, x_in 1731 (by decide +kernel) rfl⟩
theorem wX9_learn : x_Cw mX9_learn 3 := ⟨x_in 1211 (by decide +kernel) rfl, x_in 116 (by decide +kernel) rfl, ⟨by decide, by decide⟩, by decide +kernel⟩
theorem l_X3_X9_learn : x_LV RX3 206 3 mX9_learn := ⟨wX9_learn, rfl, x_in 1208 (by decide +kernel) rfl, x_in 1209 (by decide +kernel) rfl, x_in 1210 (by decide +kernel) rfl⟩
theorem l_X6_X5_init : x_LIN RX6 11 0 mX5_init "PreparedPlans" := ⟨wX5_init, rfl, rfl, rfl, x_in 190 (by decide +kernel) rfl, List.mem_of_getElem? (i := 742) (by decide +kernel)⟩
theorem wX3_clear : x_Cw mX3_clear 1 := ⟨x_in 771 (by decide +kernel) rfl, x_in 114 (by decide +kernel) rfl, ⟨by decide, by decide⟩, by decide +kernel⟩
theorem l_X6_X3_clear : x_LV RX6 34 1 mX3_clear := ⟨wX3_clear, rfl, x_in 768 (by decide +kernel) rfl, x_in 769 (by decide +kernel) rfl, x_in 770 (by decide +kernel) rfl⟩
theorem wX8_advance : x_Cw mX8_advance 0 := ⟨x_in 779 (by decide +kernel) rfl, x_in 109 (by decide +kernel) rfl, ⟨by decide, by decide⟩, by decide +kernel⟩
theorem l_X6_X8_advance : x_LV RX6 40 0 mX8_advance := ⟨wX8_advance, rfl, x_in 776 (by decide +kernel) rfl, x_in 777 (by decide +kernel) rfl, x_in 778 (by decide +kernel) rfl⟩
theorem wX6_expectWord : x_Cw mX6_expectWord 1 := ⟨x_in 784 (by decide +kernel) rfl, x_in 127 (by decide +kernel) rfl, ⟨by decide, by decide⟩, by decide +kernel⟩
theorem l_X6_X6_expectWord : x_LV RX6 47 1 mX6_expectWord := ⟨wX6_expectWord, rfl, x_in 781 (by decide +kernel) rfl, x_in 783 (by decide +kernel) rfl, x_in 16 (by decide +kernel) rfl⟩
theorem wX6_expectByte : x_Cw mX6_expectByte 1 := ⟨x_in 796 (by decide +kernel) rfl, x_in 127 (by decide +kernel) rfl, ⟨by decide, by decide⟩, by decide +kernel⟩
theorem l_X6_X6_expectByte : x_LV RX6 51 1 mX6_expectByte := ⟨wX6_expectByte, rfl, x_in 793 (by decide +kernel) rfl, x_in 795 (by decide +kernel) rfl, x_in 18 (by decide +kernel) rfl⟩
theorem wX8_isWord : x_Cw mX8_isWord 1 := ⟨x_in 788 (by decide +kernel) rfl, x_in 109 (by decide +kernel) rfl, ⟨by decide, by decide⟩, by decide +kernel⟩
theorem l_X6_X8_isWord : x_LV RX6 57 1 mX8_isWord := ⟨wX8_isWord, rfl, x_in 785 (by decide +kernel) rfl, x_in 786 (by decide +kernel) rfl, x_in 787 (by decide +kernel) rfl⟩
theorem wX6_readColumn : x_Cw mX6_readColumn 0 := ⟨x_in 801 (by decide +kernel) rfl, x_in 127 (by decide +kernel) rfl, ⟨by decide, by decide⟩, by decide +kernel⟩
theorem l_X6_X6_readColumn : x_LV RX6 61 0 mX6_readColumn := ⟨wX6_readColumn, rfl, x_in 798 (by decide +kernel) rfl, x_in 800 (by decide +kernel) rfl, x_in 19 (by decide +kernel) rfl⟩
theorem wX6_readIndex : x_Cw mX6_readIndex 0 := ⟨x_in 825 (by decide +kernel) rfl, x_in 127 (by decide +kernel) rfl, ⟨by decide, by decide⟩, by decide +kernel⟩
theorem l_X6_X6_readIndex : x_LV RX6 66 0 mX6_readIndex := ⟨wX6_readIndex, rfl, x_in 822 (by decide +kernel) rfl, x_in 824 (by decide +kernel) rfl, x_in 22 (by decide +kernel) rfl⟩
theorem wX6_readRow : x_Cw mX6_readRow 0 := ⟨x_in 834 (by decide +kernel) rfl, x_in 127 (by decide +kernel) rfl, ⟨by decide, by decide⟩, by decide +kernel⟩
theorem l_X6_X6_readRow : x_LV RX6 71 0 mX6_readRow := ⟨wX6_readRow, rfl, x_in 831 (by decide +kernel) rfl, x_in 833 (by decide +kernel) rfl, x_in 24 (by decide +kernel) rfl⟩
theorem wX6_readPrepare : x_Cw mX6_readPrepare 0 := ⟨x_in 851 (by decide +kernel) rfl, x_in 127 (by decide +kernel) rfl, ⟨by decide, by decide⟩, by decide +kernel⟩
theorem l_X6_X6_readPrepare : x_LV RX6 76 0 mX6_readPrepare := ⟨wX6_readPrepare, rfl, x_in 848 (by decide +kernel) rfl, x_in 850 (by decide +kernel) rfl, x_in 26 (by decide +kernel) rfl⟩
theorem wX6_readCost : x_Cw mX6_readCost 0 := ⟨x_in 1021 (by decide +kernel) rfl, x_in 127 (by decide +kernel) rfl, ⟨by decide, by decide⟩, by decide +kernel⟩
theorem l_X6_X6_readCost : x_LV RX6 79 0 mX6_readCost := ⟨wX6_readCost, rfl, x_in 1018 (by decide +kernel) rfl, x_in 1020 (by decide +kernel) rfl, x_in 35 (by decide +kernel) rfl⟩
theorem wX6_readTries : x_Cw mX6_readTries 0 := ⟨x_in 1026 (by decide +kernel) rfl, x_in 127 (by decide +kernel) rfl, ⟨by decide, by decide⟩, by decide +kernel⟩
theorem l_X6_X6_readTries : x_LV RX6 82 0 mX6_readTries := ⟨wX6_readTries, rfl, x_in 1023 (by decide +kernel) rfl, x_in 1025 (by decide +kernel) rfl, x_in 36 (by decide +kernel) rfl⟩
theorem wX6_fail : x_Cw mX6_fail 2 := ⟨x_in 792 (by decide +kernel) rfl, x_in 127 (by decide +kernel) rfl, ⟨by decide, by decide⟩, by decide +kernel⟩
theorem l_X6_X6_fail : x_LV RX6 91 2 mX6_fail := ⟨wX6_fail, rfl, x_in 789 (by decide +kernel) rfl, x_in 791 (by decide +kernel) rfl, x_in 17 (by decide +kernel) rfl⟩
theorem l_X6_X3_takeStatistics : x_LV RX6 95 0 mX3_takeStatistics := ⟨wX3_takeStatistics, rfl, x_in 1028 (by decide +kernel) rfl, x_in 442 (by decide +kernel) rfl, x_in 443 (by decide +kernel) rfl⟩
theorem wX6_takeName : x_Cw mX6_takeName 0 := ⟨x_in 805 (by decide +kernel) rfl, x_in 127 (by decide +kernel) rfl, ⟨by decide, by decide⟩, by decide +kernel⟩
theorem l_X6_X6_takeName : x_LV RX6 108 0 mX6_takeName := ⟨wX6_takeName, rfl, x_in 802 (by decide +kernel) rfl, x_in 804 (by decide +kernel) rfl, x_in 20 (by decide +kernel) rfl⟩
theorem wX5_findColumn : x_Cw mX5_findColumn 1 := ⟨x_in 809 (by decide +kernel) rfl, x_in 110 (by decide +kernel) rfl, ⟨by decide, by decide⟩, by decide +kernel⟩
theorem l_X6_X5_findColumn : x_LV RX6 112 1 mX5_findColumn := ⟨wX5_findColumn, rfl, x_in 806 (by decide +kernel) rfl, x_in 807 (by decide +kernel) rfl, x_in 808 (by decide +kernel) rfl⟩
theorem wX6_takeType : x_Cw mX6_takeType 0 := ⟨x_in 813 (by decide +kernel) rfl, x_in 127 (by decide +kernel) rfl, ⟨by decide, by decide⟩, by decide +kernel⟩
theorem l_X6_X6_takeType : x_LV RX6 119 0 mX6_takeType := ⟨wX6_takeType, rfl, x_in 810 (by decide +kernel) rfl, x_in 812 (by decide +kernel) rfl, x_in 21 (by decide +kernel) rfl⟩
theorem wX5_addColumn : x_Cw mX5_addColumn 2 := ⟨x_in 820 (by decide +kernel) rfl, x_in 110 (by decide +kernel) rfl, ⟨by decide, by decide⟩, by decide +kernel⟩
theorem l_X6_X5_addColumn : x_LV RX6 123 2 mX5_addColumn := ⟨wX5_addColumn, rfl, x_in 817 (by decide +kernel) rfl, x_in 818 (by decide +kernel) rfl, x_in 819 (by decide +kernel) rfl⟩
theorem wX6_takeColumn : x_Cw mX6_takeColumn 0 := ⟨x_in 829 (by decide +kernel) rfl, x_in 127 (by decide +kernel) rfl, ⟨by decide, by decide⟩, by decide +kernel⟩
theorem l_X6_X6_takeColumn : x_LV RX6 133 0 mX6_takeColumn := ⟨wX6_takeColumn, rfl, x_in 826 (by decide +kernel) rfl, x_in 828 (by decide +kernel) rfl, x_in 23 (by decide +kernel) rfl⟩
theorem l_X6_X5_typeOf : x_LV RX6 143 1 mX5_typeOf := ⟨wX5_typeOf, rfl, x_in 835 (by decide +kernel) rfl, x_in 580 (by decide +kernel) rfl, x_in 581 (by decide +kernel) rfl⟩
theorem l_X6_X10_greatestOf : x_LSN RX6 147 1 mX10_greatestOf "PreparedPlans" := ⟨wX10_greatestOf, rfl, x_in 837 (by decide +kernel) rfl, List.mem_of_getElem? (i := 836) (by decide +kernel)⟩
theorem wX6_takeNumber : x_Cw mX6_takeNumber 1 := ⟨x_in 842 (by decide +kernel) rfl, x_in 127 (by decide +kernel) rfl, ⟨by decide, by decide⟩, by decide +kernel⟩
theorem l_X6_X6_takeNumber : x_LV RX6 150 1 mX6_takeNumber := ⟨wX6_takeNumber, rfl, x_in 839 (by decide +kernel) rfl, x_in 841 (by decide +kernel) rfl, x_in 25 (by decide +kernel) rfl⟩
theorem l_X6_X3_putCell : x_LV RX6 153 3 mX3_putCell := ⟨wX3_putCell, rfl, x_in 843 (by decide +kernel) rfl, x_in 844 (by decide +kernel) rfl, x_in 845 (by decide +kernel) rfl⟩
theorem l_X6_X5_findStatement : x_LV RX6 166 1 mX5_findStatement := ⟨wX5_findStatement, rfl, x_in 853 (by decide +kernel) rfl, x_in 854 (by decide +kernel) rfl, x_in 855 (by decide +kernel) rfl⟩
theorem wX6_readCondition : x_Cw mX6_readCondition 1 := ⟨x_in 865 (by decide +kernel) rfl, x_in 127 (by decide +kernel) rfl, ⟨by decide, by decide⟩, by decide +kernel⟩
theorem l_X6_X6_readCondition : x_LV RX6 171 1 mX6_readCondition := ⟨wX6_readCondition, rfl, x_in 862 (by decide +kernel) rfl, x_in 864 (by decide +kernel) rfl, x_in 27 (by decide +kernel) rfl⟩
theorem wX4_init : x_Cw mX4_init 3 := ⟨x_in 981 (by decide +kernel) rfl, x_in 129 (by decide +kernel) rfl, ⟨by decide, by decide⟩, by decide +kernel⟩
theorem l_X6_X4_init : x_LI RX6 175 3 mX4_init := ⟨wX4_init, rfl, rfl, rfl, x_in 980 (by decide +kernel) rfl, x_in 979 (by decide +kernel) rfl⟩
theorem lu_X6_X0_addSargable : x_LU RX6 185 1 ⟨"PreparedPlans$Condition", "addSargable", "(Ljava/util/ArrayList;)V"⟩ mX0_addSargable := ⟨wX0_addSargable, rfl, x_in 1004 (by decide +kernel) rfl, x_in 1006 (by decide +kernel) rfl, x_in 1007 (by decide +kernel) rfl, x_in 1008 (by decide +kernel) rfl, List.mem_of_getElem? (i := 1005) (by decide +kernel), ⟨by decide, by decide⟩, rfl⟩
theorem lu_X6_X1_addSargable : x_LU RX6 185 1 ⟨"PreparedPlans$Condition", "addSargable", "(Ljava/util/ArrayList;)V"⟩ mX1_addSargable := ⟨wX1_addSargable, rfl, x_in 1004 (by decide +kernel) rfl, x_in 1006 (by decide +kernel) rfl, x_in 1011 (by decide +kernel) rfl, x_in 1012 (by decide +kernel) rfl, List.mem_of_getElem? (i := 1005) (by decide +kernel), ⟨by decide, by decide⟩, rfl⟩
theorem wX1_init : x_Cw mX1_init 1 := ⟨x_in 870 (by decide +kernel) rfl, x_in 131 (by decide +kernel) rfl, ⟨by decide, by decide⟩, by decide +kernel⟩
theorem l_X6_X1_init : x_LI RX6 212 1 mX1_init := ⟨wX1_init, rfl, rfl, rfl, x_in 869 (by decide +kernel) rfl, x_in 868 (by decide +kernel) rfl⟩
theorem wX6_readFactor : x_Cw mX6_readFactor 1 := ⟨x_in 944 (by decide +kernel) rfl, x_in 127 (by decide +kernel) rfl, ⟨by decide, by decide⟩, by decide +kernel⟩
theorem l_X6_X6_readFactor : x_LV RX6 218 1 mX6_readFactor := ⟨wX6_readFactor, rfl, x_in 941 (by decide +kernel) rfl, x_in 943 (by decide +kernel) rfl, x_in 31 (by decide +kernel) rfl⟩
theorem wX6_readNested : x_Cw mX6_readNested 1 := ⟨x_in 948 (by decide +kernel) rfl, x_in 127 (by decide +kernel) rfl, ⟨by decide, by decide⟩, by decide +kernel⟩
theorem l_X6_X6_readNested : x_LV RX6 221 1 mX6_readNested := ⟨wX6_readNested, rfl, x_in 945 (by decide +kernel) rfl, x_in 947 (by decide +kernel) rfl, x_in 32 (by decide +kernel) rfl⟩
theorem wX6_takeSign : x_Cw mX6_takeSign 0 := ⟨x_in 952 (by decide +kernel) rfl, x_in 127 (by decide +kernel) rfl, ⟨by decide, by decide⟩, by decide +kernel⟩
theorem l_X6_X6_takeSign : x_LV RX6 224 0 mX6_takeSign := ⟨wX6_takeSign, rfl, x_in 949 (by decide +kernel) rfl, x_in 951 (by decide +kernel) rfl, x_in 33 (by decide +kernel) rfl⟩
theorem wX0_init : x_Cw mX0_init 4 := ⟨x_in 957 (by decide +kernel) rfl, x_in 135 (by decide +kernel) rfl, ⟨by decide, by decide⟩, by decide +kernel⟩
theorem l_X6_X0_init : x_LI RX6 230 4 mX0_init := ⟨wX0_init, rfl, rfl, rfl, x_in 956 (by decide +kernel) rfl, x_in 955 (by decide +kernel) rfl⟩
theorem wX6_takeHole : x_Cw mX6_takeHole 1 := ⟨x_in 978 (by decide +kernel) rfl, x_in 127 (by decide +kernel) rfl, ⟨by decide, by decide⟩, by decide +kernel⟩
theorem l_X6_X6_takeHole : x_LV RX6 233 1 mX6_takeHole := ⟨wX6_takeHole, rfl, x_in 975 (by decide +kernel) rfl, x_in 977 (by decide +kernel) rfl, x_in 34 (by decide +kernel) rfl⟩
theorem l_X7_X0_valueWith : x_LV RX7 36 1 mX0_valueWith := ⟨wX0_valueWith, rfl, x_in 1097 (by decide +kernel) rfl, x_in 1098 (by decide +kernel) rfl, x_in 1099 (by decide +kernel) rfl⟩
theorem wX7_estimateEqual : x_Cw mX7_estimateEqual 2 := ⟨x_in 1104 (by decide +kernel) rfl, x_in 115 (by decide +kernel) rfl, ⟨by decide, by decide⟩, by decide +kernel⟩
theorem l_X7_X7_estimateEqual : x_LV RX7 44 2 mX7_estimateEqual := ⟨wX7_estimateEqual, rfl, x_in 1101 (by decide +kernel) rfl, x_in 1103 (by decide +kernel) rfl, x_in 39 (by decide +kernel) rfl⟩
theorem l_X8_X10_isLetter : x_LSN RX8 32 1 mX10_isLetter "PreparedPlans" := ⟨wX10_isLetter, rfl, x_in 656 (by decide +kernel) rfl, List.mem_of_getElem? (i := 655) (by decide +kernel)⟩
theorem wX8_addWord : x_Cw mX8_addWord 3 := ⟨x_in 661 (by decide +kernel) rfl, x_in 109 (by decide +kernel) rfl, ⟨by decide, by decide⟩, by decide +kernel⟩
theorem l_X8_X8_addWord : x_LV RX8 36 3 mX8_addWord := ⟨wX8_addWord, rfl, x_in 658 (by decide +kernel) rfl, x_in 660 (by decide +kernel) rfl, x_in 13 (by decide +kernel) rfl⟩
theorem wX10_isDigit : x_Cw mX10_isDigit 1 := ⟨x_in 729 (by decide +kernel) rfl, x_in 108 (by decide +kernel) rfl, ⟨by decide, by decide⟩, by decide +kernel⟩
theorem l_X8_X10_isDigit : x_LSN RX8 40 1 mX10_isDigit "PreparedPlans" := ⟨wX10_isDigit, rfl, x_in 728 (by decide +kernel) rfl, List.mem_of_getElem? (i := 727) (by decide +kernel)⟩
theorem wX8_addNumber : x_Cw mX8_addNumber 3 := ⟨x_in 733 (by decide +kernel) rfl, x_in 109 (by decide +kernel) rfl, ⟨by decide, by decide⟩, by decide +kernel⟩
theorem l_X8_X8_addNumber : x_LV RX8 43 3 mX8_addNumber := ⟨wX8_addNumber, rfl, x_in 730 (by decide +kernel) rfl, x_in 732 (by decide +kernel) rfl, x_in 15 (by decide +kernel) rfl⟩
theorem wX8_add : x_Cw mX8_add 3 := ⟨x_in 726 (by decide +kernel) rfl, x_in 109 (by decide +kernel) rfl, ⟨by decide, by decide⟩, by decide +kernel⟩
theorem l_X8_X8_add : x_LV RX8 46 3 mX8_add := ⟨wX8_add, rfl, x_in 723 (by decide +kernel) rfl, x_in 725 (by decide +kernel) rfl, x_in 14 (by decide +kernel) rfl⟩
theorem l_X8_X10_nameIn : x_LSN RX8 50 3 mX10_nameIn "PreparedPlans" := ⟨wX10_nameIn, rfl, x_in 663 (by decide +kernel) rfl, List.mem_of_getElem? (i := 662) (by decide +kernel)⟩
theorem wX8_kindOf : x_Cw mX8_kindOf 1 := ⟨x_in 670 (by decide +kernel) rfl, x_in 109 (by decide +kernel) rfl, ⟨by decide, by decide⟩, by decide +kernel⟩
theorem l_X8_X8_kindOf : x_LS RX8 54 1 mX8_kindOf := ⟨wX8_kindOf, rfl, x_in 669 (by decide +kernel) rfl, x_in 668 (by decide +kernel) rfl⟩
theorem wX10_nameOf : x_Cw mX10_nameOf 1 := ⟨x_in 674 (by decide +kernel) rfl, x_in 108 (by decide +kernel) rfl, ⟨by decide, by decide⟩, by decide +kernel⟩
theorem l_X8_X10_nameOf : x_LSN RX8 60 1 mX10_nameOf "PreparedPlans" := ⟨wX10_nameOf, rfl, x_in 673 (by decide +kernel) rfl, List.mem_of_getElem? (i := 672) (by decide +kernel)⟩
theorem wX10_load : x_Cw mX10_load 1 := ⟨x_in 645 (by decide +kernel) rfl, x_in 108 (by decide +kernel) rfl, ⟨by decide, by decide⟩, by decide +kernel⟩
theorem l_L_X10_load : x_LV RL 7 1 mX10_load := ⟨wX10_load, rfl, x_in 642 (by decide +kernel) rfl, x_in 643 (by decide +kernel) rfl, x_in 644 (by decide +kernel) rfl⟩
theorem l_L_X10_count : x_LV RL 15 1 mX10_count := ⟨wX10_count, rfl, x_in 1032 (by decide +kernel) rfl, x_in 481 (by decide +kernel) rfl, x_in 482 (by decide +kernel) rfl⟩
theorem l_L_X10_column : x_LV RL 18 2 mX10_column := ⟨wX10_column, rfl, x_in 1037 (by decide +kernel) rfl, x_in 556 (by decide +kernel) rfl, x_in 557 (by decide +kernel) rfl⟩
theorem l_L_X10_value : x_LV RL 24 2 mX10_value := ⟨wX10_value, rfl, x_in 1041 (by decide +kernel) rfl, x_in 584 (by decide +kernel) rfl, x_in 585 (by decide +kernel) rfl⟩
theorem wX10_named : x_Cw mX10_named 1 := ⟨x_in 1048 (by decide +kernel) rfl, x_in 108 (by decide +kernel) rfl, ⟨by decide, by decide⟩, by decide +kernel⟩
theorem l_L_X10_named : x_LV RL 27 1 mX10_named := ⟨wX10_named, rfl, x_in 1045 (by decide +kernel) rfl, x_in 1046 (by decide +kernel) rfl, x_in 1047 (by decide +kernel) rfl⟩
theorem l_L_X10_hole : x_LV RL 30 2 mX10_hole := ⟨wX10_hole, rfl, x_in 1054 (by decide +kernel) rfl, x_in 615 (by decide +kernel) rfl, x_in 616 (by decide +kernel) rfl⟩
theorem l_L_X10_statement : x_LV RL 33 2 mX10_statement := ⟨wX10_statement, rfl, x_in 1058 (by decide +kernel) rfl, x_in 598 (by decide +kernel) rfl, x_in 599 (by decide +kernel) rfl⟩
theorem l_L_X10_learned : x_LV RL 36 2 mX10_learned := ⟨wX10_learned, rfl, x_in 1062 (by decide +kernel) rfl, x_in 635 (by decide +kernel) rfl, x_in 636 (by decide +kernel) rfl⟩
theorem l_L_X10_kept : x_LV RL 39 1 mX10_kept := ⟨wX10_kept, rfl, x_in 1066 (by decide +kernel) rfl, x_in 611 (by decide +kernel) rfl, x_in 612 (by decide +kernel) rfl⟩
theorem wX10_genericCost : x_Cw mX10_genericCost 2 := ⟨x_in 1073 (by decide +kernel) rfl, x_in 108 (by decide +kernel) rfl, ⟨by decide, by decide⟩, by decide +kernel⟩
theorem l_L_X10_genericCost : x_LV RL 42 2 mX10_genericCost := ⟨wX10_genericCost, rfl, x_in 1070 (by decide +kernel) rfl, x_in 1071 (by decide +kernel) rfl, x_in 1072 (by decide +kernel) rfl⟩
theorem wX10_special : x_Cw mX10_special 5 := ⟨x_in 1113 (by decide +kernel) rfl, x_in 108 (by decide +kernel) rfl, ⟨by decide, by decide⟩, by decide +kernel⟩
theorem l_L_X10_special : x_LV RL 45 5 mX10_special := ⟨wX10_special, rfl, x_in 1110 (by decide +kernel) rfl, x_in 1111 (by decide +kernel) rfl, x_in 1112 (by decide +kernel) rfl⟩
theorem wX10_specialCost : x_Cw mX10_specialCost 6 := ⟨x_in 1134 (by decide +kernel) rfl, x_in 108 (by decide +kernel) rfl, ⟨by decide, by decide⟩, by decide +kernel⟩
theorem l_L_X10_specialCost : x_LV RL 49 6 mX10_specialCost := ⟨wX10_specialCost, rfl, x_in 1131 (by decide +kernel) rfl, x_in 1132 (by decide +kernel) rfl, x_in 1133 (by decide +kernel) rfl⟩
theorem wX10_wouldUse : x_Cw mX10_wouldUse 5 := ⟨x_in 1141 (by decide +kernel) rfl, x_in 108 (by decide +kernel) rfl, ⟨by decide, by decide⟩, by decide +kernel⟩
theorem l_L_X10_wouldUse : x_LV RL 53 5 mX10_wouldUse := ⟨wX10_wouldUse, rfl, x_in 1138 (by decide +kernel) rfl, x_in 1139 (by decide +kernel) rfl, x_in 1140 (by decide +kernel) rfl⟩
theorem wX10_rows : x_Cw mX10_rows 5 := ⟨x_in 1163 (by decide +kernel) rfl, x_in 108 (by decide +kernel) rfl, ⟨by decide, by decide⟩, by decide +kernel⟩
theorem l_L_X10_rows : x_LV RL 56 5 mX10_rows := ⟨wX10_rows, rfl, x_in 1160 (by decide +kernel) rfl, x_in 1161 (by decide +kernel) rfl, x_in 1162 (by decide +kernel) rfl⟩
theorem wX10_run : x_Cw mX10_run 5 := ⟨x_in 1195 (by decide +kernel) rfl, x_in 108 (by decide +kernel) rfl, ⟨by decide, by decide⟩, by decide +kernel⟩
theorem l_L_X10_run : x_LV RL 60 5 mX10_run := ⟨wX10_run, rfl, x_in 1192 (by decide +kernel) rfl, x_in 1193 (by decide +kernel) rfl, x_in 1194 (by decide +kernel) rfl⟩
theorem wX10_insert : x_Cw mX10_insert 5 := ⟨x_in 1222 (by decide +kernel) rfl, x_in 108 (by decide +kernel) rfl, ⟨by decide, by decide⟩, by decide +kernel⟩
theorem l_L_X10_insert : x_LV RL 63 5 mX10_insert := ⟨wX10_insert, rfl, x_in 1219 (by decide +kernel) rfl, x_in 1220 (by decide +kernel) rfl, x_in 1221 (by decide +kernel) rfl⟩
theorem wX10_delete : x_Cw mX10_delete 1 := ⟨x_in 1246 (by decide +kernel) rfl, x_in 108 (by decide +kernel) rfl, ⟨by decide, by decide⟩, by decide +kernel⟩
theorem l_L_X10_delete : x_LV RL 68 1 mX10_delete := ⟨wX10_delete, rfl, x_in 1243 (by decide +kernel) rfl, x_in 1244 (by decide +kernel) rfl, x_in 1245 (by decide +kernel) rfl⟩
theorem wX10_setIndex : x_Cw mX10_setIndex 2 := ⟨x_in 1258 (by decide +kernel) rfl, x_in 108 (by decide +kernel) rfl, ⟨by decide, by decide⟩, by decide +kernel⟩
theorem l_L_X10_setIndex : x_LV RL 71 2 mX10_setIndex := ⟨wX10_setIndex, rfl, x_in 1255 (by decide +kernel) rfl, x_in 1256 (by decide +kernel) rfl, x_in 1257 (by decide +kernel) rfl⟩
end
section
/-! links -/
theorem wX10_init : x_Cw mX10_init 0 := ⟨x_in 143 (by decide +kernel) rfl, x_in 108 (by decide +kernel) rfl, ⟨by decide, by decide⟩, by decide +kernel⟩
theorem l_L_X10_init : x_LI RL 75 0 mX10_init := ⟨wX10_init, rfl, rfl, rfl, x_in 142 (by decide +kernel) rfl, x_in 141 (by decide +kernel) rfl⟩
theorem wX11_init : x_Cw mX11_init 0 := ⟨x_in 1263 (by decide +kernel) rfl, x_in 117 (by decide +kernel) rfl, ⟨by decide, by decide⟩, by decide +kernel⟩
theorem l_L_X11_init : x_LI RL 78 0 mX11_init := ⟨wX11_init, rfl, rfl, rfl, x_in 1262 (by decide +kernel) rfl, x_in 1261 (by decide +kernel) rfl⟩
theorem wX10_append : x_Cw mX10_append 5 := ⟨x_in 399 (by decide +kernel) rfl, x_in 108 (by decide +kernel) rfl, ⟨by decide, by decide⟩, by decide +kernel⟩
theorem l_L_X10_append : x_LV RL 79 5 mX10_append := ⟨wX10_append, rfl, x_in 396 (by decide +kernel) rfl, x_in 397 (by decide +kernel) rfl, x_in 398 (by decide +kernel) rfl⟩
theorem wX11_append : x_Cw mX11_append 5 := ⟨x_in 1341 (by decide +kernel) rfl, x_in 117 (by decide +kernel) rfl, ⟨by decide, by decide⟩, by decide +kernel⟩
theorem l_L_X11_append : x_LV RL 82 5 mX11_append := ⟨wX11_append, rfl, x_in 1338 (by decide +kernel) rfl, x_in 1339 (by decide +kernel) rfl, x_in 1340 (by decide +kernel) rfl⟩
theorem wL_load : x_Cw mL_load 3 := ⟨x_in 640 (by decide +kernel) rfl, x_in 107 (by decide +kernel) rfl, ⟨by decide, by decide⟩, by decide +kernel⟩
theorem l_L_L_load : x_LSX RL 83 3 mL_load := ⟨wL_load, ⟨_, _, rfl⟩, x_in 639 (by decide +kernel) rfl, x_in 638 (by decide +kernel) rfl⟩
theorem wX11_load : x_Cw mX11_load 1 := ⟨x_in 1345 (by decide +kernel) rfl, x_in 117 (by decide +kernel) rfl, ⟨by decide, by decide⟩, by decide +kernel⟩
theorem l_L_X11_load : x_LV RL 88 1 mX11_load := ⟨wX11_load, rfl, x_in 1342 (by decide +kernel) rfl, x_in 1343 (by decide +kernel) rfl, x_in 1344 (by decide +kernel) rfl⟩
theorem wX11_thrown : x_Cw mX11_thrown 0 := ⟨x_in 1337 (by decide +kernel) rfl, x_in 117 (by decide +kernel) rfl, ⟨by decide, by decide⟩, by decide +kernel⟩
theorem l_L_X11_thrown : x_LV RL 89 0 mX11_thrown := ⟨wX11_thrown, rfl, x_in 1334 (by decide +kernel) rfl, x_in 1335 (by decide +kernel) rfl, x_in 1336 (by decide +kernel) rfl⟩
theorem wX10_errorOffset : x_Cw mX10_errorOffset 0 := ⟨x_in 407 (by decide +kernel) rfl, x_in 108 (by decide +kernel) rfl, ⟨by decide, by decide⟩, by decide +kernel⟩
theorem l_L_X10_errorOffset : x_LV RL 93 0 mX10_errorOffset := ⟨wX10_errorOffset, rfl, x_in 404 (by decide +kernel) rfl, x_in 405 (by decide +kernel) rfl, x_in 406 (by decide +kernel) rfl⟩
theorem wX11_errorOffset : x_Cw mX11_errorOffset 0 := ⟨x_in 1532 (by decide +kernel) rfl, x_in 117 (by decide +kernel) rfl, ⟨by decide, by decide⟩, by decide +kernel⟩
theorem l_L_X11_errorOffset : x_LV RL 96 0 mX11_errorOffset := ⟨wX11_errorOffset, rfl, x_in 1529 (by decide +kernel) rfl, x_in 1530 (by decide +kernel) rfl, x_in 1531 (by decide +kernel) rfl⟩
theorem wL_count : x_Cw mL_count 3 := ⟨x_in 1031 (by decide +kernel) rfl, x_in 107 (by decide +kernel) rfl, ⟨by decide, by decide⟩, by decide +kernel⟩
theorem l_L_L_count : x_LSX RL 97 3 mL_count := ⟨wL_count, ⟨_, _, rfl⟩, x_in 1030 (by decide +kernel) rfl, x_in 1029 (by decide +kernel) rfl⟩
theorem wX11_count : x_Cw mX11_count 1 := ⟨x_in 1536 (by decide +kernel) rfl, x_in 117 (by decide +kernel) rfl, ⟨by decide, by decide⟩, by decide +kernel⟩
theorem l_L_X11_count : x_LV RL 99 1 mX11_count := ⟨wX11_count, rfl, x_in 1533 (by decide +kernel) rfl, x_in 1534 (by decide +kernel) rfl, x_in 1535 (by decide +kernel) rfl⟩
theorem wL_column : x_Cw mL_column 4 := ⟨x_in 1035 (by decide +kernel) rfl, x_in 107 (by decide +kernel) rfl, ⟨by decide, by decide⟩, by decide +kernel⟩
theorem l_L_L_column : x_LSX RL 100 4 mL_column := ⟨wL_column, ⟨_, _, rfl⟩, x_in 1034 (by decide +kernel) rfl, x_in 1033 (by decide +kernel) rfl⟩
theorem wX11_column : x_Cw mX11_column 2 := ⟨x_in 1541 (by decide +kernel) rfl, x_in 117 (by decide +kernel) rfl, ⟨by decide, by decide⟩, by decide +kernel⟩
theorem l_L_X11_column : x_LV RL 103 2 mX11_column := ⟨wX11_column, rfl, x_in 1538 (by decide +kernel) rfl, x_in 1539 (by decide +kernel) rfl, x_in 1540 (by decide +kernel) rfl⟩
theorem wL_value : x_Cw mL_value 4 := ⟨x_in 1040 (by decide +kernel) rfl, x_in 107 (by decide +kernel) rfl, ⟨by decide, by decide⟩, by decide +kernel⟩
theorem l_L_L_value : x_LSX RL 104 4 mL_value := ⟨wL_value, ⟨_, _, rfl⟩, x_in 1039 (by decide +kernel) rfl, x_in 1038 (by decide +kernel) rfl⟩
theorem wX11_value : x_Cw mX11_value 2 := ⟨x_in 1554 (by decide +kernel) rfl, x_in 117 (by decide +kernel) rfl, ⟨by decide, by decide⟩, by decide +kernel⟩
theorem l_L_X11_value : x_LV RL 106 2 mX11_value := ⟨wX11_value, rfl, x_in 1551 (by decide +kernel) rfl, x_in 1552 (by decide +kernel) rfl, x_in 1553 (by decide +kernel) rfl⟩
theorem wL_named : x_Cw mL_named 3 := ⟨x_in 1044 (by decide +kernel) rfl, x_in 107 (by decide +kernel) rfl, ⟨by decide, by decide⟩, by decide +kernel⟩
theorem l_L_L_named : x_LSX RL 107 3 mL_named := ⟨wL_named, ⟨_, _, rfl⟩, x_in 1043 (by decide +kernel) rfl, x_in 1042 (by decide +kernel) rfl⟩
theorem wX11_named : x_Cw mX11_named 1 := ⟨x_in 1558 (by decide +kernel) rfl, x_in 117 (by decide +kernel) rfl, ⟨by decide, by decide⟩, by decide +kernel⟩
theorem l_L_X11_named : x_LV RL 109 1 mX11_named := ⟨wX11_named, rfl, x_in 1555 (by decide +kernel) rfl, x_in 1556 (by decide +kernel) rfl, x_in 1557 (by decide +kernel) rfl⟩
theorem wL_hole : x_Cw mL_hole 4 := ⟨x_in 1053 (by decide +kernel) rfl, x_in 107 (by decide +kernel) rfl, ⟨by decide, by decide⟩, by decide +kernel⟩
theorem l_L_L_hole : x_LSX RL 110 4 mL_hole := ⟨wL_hole, ⟨_, _, rfl⟩, x_in 1052 (by decide +kernel) rfl, x_in 1051 (by decide +kernel) rfl⟩
theorem wX11_hole : x_Cw mX11_hole 2 := ⟨x_in 1570 (by decide +kernel) rfl, x_in 117 (by decide +kernel) rfl, ⟨by decide, by decide⟩, by decide +kernel⟩
theorem l_L_X11_hole : x_LV RL 112 2 mX11_hole := ⟨wX11_hole, rfl, x_in 1567 (by decide +kernel) rfl, x_in 1568 (by decide +kernel) rfl, x_in 1569 (by decide +kernel) rfl⟩
theorem wL_statement : x_Cw mL_statement 4 := ⟨x_in 1057 (by decide +kernel) rfl, x_in 107 (by decide +kernel) rfl, ⟨by decide, by decide⟩, by decide +kernel⟩
theorem l_L_L_statement : x_LSX RL 113 4 mL_statement := ⟨wL_statement, ⟨_, _, rfl⟩, x_in 1056 (by decide +kernel) rfl, x_in 1055 (by decide +kernel) rfl⟩
theorem wX11_statement : x_Cw mX11_statement 2 := ⟨x_in 1579 (by decide +kernel) rfl, x_in 117 (by decide +kernel) rfl, ⟨by decide, by decide⟩, by decide +kernel⟩
theorem l_L_X11_statement : x_LV RL 115 2 mX11_statement := ⟨wX11_statement, rfl, x_in 1576 (by decide +kernel) rfl, x_in 1577 (by decide +kernel) rfl, x_in 1578 (by decide +kernel) rfl⟩
theorem wL_learned : x_Cw mL_learned 4 := ⟨x_in 1061 (by decide +kernel) rfl, x_in 107 (by decide +kernel) rfl, ⟨by decide, by decide⟩, by decide +kernel⟩
theorem l_L_L_learned : x_LSX RL 116 4 mL_learned := ⟨wL_learned, ⟨_, _, rfl⟩, x_in 1060 (by decide +kernel) rfl, x_in 1059 (by decide +kernel) rfl⟩
theorem wX11_learned : x_Cw mX11_learned 2 := ⟨x_in 1592 (by decide +kernel) rfl, x_in 117 (by decide +kernel) rfl, ⟨by decide, by decide⟩, by decide +kernel⟩
theorem l_L_X11_learned : x_LV RL 118 2 mX11_learned := ⟨wX11_learned, rfl, x_in 1589 (by decide +kernel) rfl, x_in 1590 (by decide +kernel) rfl, x_in 1591 (by decide +kernel) rfl⟩
theorem wL_kept : x_Cw mL_kept 3 := ⟨x_in 1065 (by decide +kernel) rfl, x_in 107 (by decide +kernel) rfl, ⟨by decide, by decide⟩, by decide +kernel⟩
theorem l_L_L_kept : x_LSX RL 119 3 mL_kept := ⟨wL_kept, ⟨_, _, rfl⟩, x_in 1064 (by decide +kernel) rfl, x_in 1063 (by decide +kernel) rfl⟩
theorem wX11_kept : x_Cw mX11_kept 1 := ⟨x_in 1596 (by decide +kernel) rfl, x_in 117 (by decide +kernel) rfl, ⟨by decide, by decide⟩, by decide +kernel⟩
theorem l_L_X11_kept : x_LV RL 121 1 mX11_kept := ⟨wX11_kept, rfl, x_in 1593 (by decide +kernel) rfl, x_in 1594 (by decide +kernel) rfl, x_in 1595 (by decide +kernel) rfl⟩
theorem wL_genericCost : x_Cw mL_genericCost 4 := ⟨x_in 1069 (by decide +kernel) rfl, x_in 107 (by decide +kernel) rfl, ⟨by decide, by decide⟩, by decide +kernel⟩
theorem l_L_L_genericCost : x_LSX RL 122 4 mL_genericCost := ⟨wL_genericCost, ⟨_, _, rfl⟩, x_in 1068 (by decide +kernel) rfl, x_in 1067 (by decide +kernel) rfl⟩
theorem wX11_genericCost : x_Cw mX11_genericCost 2 := ⟨x_in 1600 (by decide +kernel) rfl, x_in 117 (by decide +kernel) rfl, ⟨by decide, by decide⟩, by decide +kernel⟩
theorem l_L_X11_genericCost : x_LV RL 124 2 mX11_genericCost := ⟨wX11_genericCost, rfl, x_in 1597 (by decide +kernel) rfl, x_in 1598 (by decide +kernel) rfl, x_in 1599 (by decide +kernel) rfl⟩
theorem wL_special : x_Cw mL_special 7 := ⟨x_in 1109 (by decide +kernel) rfl, x_in 107 (by decide +kernel) rfl, ⟨by decide, by decide⟩, by decide +kernel⟩
theorem l_L_L_special : x_LSX RL 125 7 mL_special := ⟨wL_special, ⟨_, _, rfl⟩, x_in 1108 (by decide +kernel) rfl, x_in 1107 (by decide +kernel) rfl⟩
theorem wX11_special : x_Cw mX11_special 5 := ⟨x_in 1632 (by decide +kernel) rfl, x_in 117 (by decide +kernel) rfl, ⟨by decide, by decide⟩, by decide +kernel⟩
theorem l_L_X11_special : x_LV RL 128 5 mX11_special := ⟨wX11_special, rfl, x_in 1629 (by decide +kernel) rfl, x_in 1630 (by decide +kernel) rfl, x_in 1631 (by decide +kernel) rfl⟩
theorem wL_specialCost : x_Cw mL_specialCost 8 := ⟨x_in 1130 (by decide +kernel) rfl, x_in 107 (by decide +kernel) rfl, ⟨by decide, by decide⟩, by decide +kernel⟩
theorem l_L_L_specialCost : x_LSX RL 129 8 mL_specialCost := ⟨wL_specialCost, ⟨_, _, rfl⟩, x_in 1129 (by decide +kernel) rfl, x_in 1128 (by decide +kernel) rfl⟩
theorem wX11_specialCost : x_Cw mX11_specialCost 6 := ⟨x_in 1648 (by decide +kernel) rfl, x_in 117 (by decide +kernel) rfl, ⟨by decide, by decide⟩, by decide +kernel⟩
theorem l_L_X11_specialCost : x_LV RL 132 6 mX11_specialCost := ⟨wX11_specialCost, rfl, x_in 1645 (by decide +kernel) rfl, x_in 1646 (by decide +kernel) rfl, x_in 1647 (by decide +kernel) rfl⟩
theorem wL_wouldUse : x_Cw mL_wouldUse 7 := ⟨x_in 1137 (by decide +kernel) rfl, x_in 107 (by decide +kernel) rfl, ⟨by decide, by decide⟩, by decide +kernel⟩
theorem l_L_L_wouldUse : x_LSX RL 133 7 mL_wouldUse := ⟨wL_wouldUse, ⟨_, _, rfl⟩, x_in 1136 (by decide +kernel) rfl, x_in 1135 (by decide +kernel) rfl⟩
theorem wX11_wouldUse : x_Cw mX11_wouldUse 5 := ⟨x_in 1652 (by decide +kernel) rfl, x_in 117 (by decide +kernel) rfl, ⟨by decide, by decide⟩, by decide +kernel⟩
theorem l_L_X11_wouldUse : x_LV RL 135 5 mX11_wouldUse := ⟨wX11_wouldUse, rfl, x_in 1649 (by decide +kernel) rfl, x_in 1650 (by decide +kernel) rfl, x_in 1651 (by decide +kernel) rfl⟩
theorem wL_rows : x_Cw mL_rows 7 := ⟨x_in 1159 (by decide +kernel) rfl, x_in 107 (by decide +kernel) rfl, ⟨by decide, by decide⟩, by decide +kernel⟩
theorem l_L_L_rows : x_LSX RL 136 7 mL_rows := ⟨wL_rows, ⟨_, _, rfl⟩, x_in 1158 (by decide +kernel) rfl, x_in 1157 (by decide +kernel) rfl⟩
theorem wX11_rows : x_Cw mX11_rows 5 := ⟨x_in 1664 (by decide +kernel) rfl, x_in 117 (by decide +kernel) rfl, ⟨by decide, by decide⟩, by decide +kernel⟩
theorem l_L_X11_rows : x_LV RL 138 5 mX11_rows := ⟨wX11_rows, rfl, x_in 1661 (by decide +kernel) rfl, x_in 1662 (by decide +kernel) rfl, x_in 1663 (by decide +kernel) rfl⟩
theorem wL_run : x_Cw mL_run 7 := ⟨x_in 1191 (by decide +kernel) rfl, x_in 107 (by decide +kernel) rfl, ⟨by decide, by decide⟩, by decide +kernel⟩
theorem l_L_L_run : x_LSX RL 139 7 mL_run := ⟨wL_run, ⟨_, _, rfl⟩, x_in 1190 (by decide +kernel) rfl, x_in 1189 (by decide +kernel) rfl⟩
theorem wX11_run : x_Cw mX11_run 5 := ⟨x_in 1676 (by decide +kernel) rfl, x_in 117 (by decide +kernel) rfl, ⟨by decide, by decide⟩, by decide +kernel⟩
theorem l_L_X11_run : x_LV RL 141 5 mX11_run := ⟨wX11_run, rfl, x_in 1673 (by decide +kernel) rfl, x_in 1674 (by decide +kernel) rfl, x_in 1675 (by decide +kernel) rfl⟩
theorem wL_insert : x_Cw mL_insert 7 := ⟨x_in 1217 (by decide +kernel) rfl, x_in 107 (by decide +kernel) rfl, ⟨by decide, by decide⟩, by decide +kernel⟩
theorem l_L_L_insert : x_LSX RL 142 7 mL_insert := ⟨wL_insert, ⟨_, _, rfl⟩, x_in 1216 (by decide +kernel) rfl, x_in 1215 (by decide +kernel) rfl⟩
theorem wX11_insert : x_Cw mX11_insert 5 := ⟨x_in 1696 (by decide +kernel) rfl, x_in 117 (by decide +kernel) rfl, ⟨by decide, by decide⟩, by decide +kernel⟩
theorem l_L_X11_insert : x_LV RL 144 5 mX11_insert := ⟨wX11_insert, rfl, x_in 1693 (by decide +kernel) rfl, x_in 1694 (by decide +kernel) rfl, x_in 1695 (by decide +kernel) rfl⟩
theorem wL_delete : x_Cw mL_delete 3 := ⟨x_in 1242 (by decide +kernel) rfl, x_in 107 (by decide +kernel) rfl, ⟨by decide, by decide⟩, by decide +kernel⟩
theorem l_L_L_delete : x_LSX RL 145 3 mL_delete := ⟨wL_delete, ⟨_, _, rfl⟩, x_in 1241 (by decide +kernel) rfl, x_in 1240 (by decide +kernel) rfl⟩
theorem wX11_delete : x_Cw mX11_delete 1 := ⟨x_in 1704 (by decide +kernel) rfl, x_in 117 (by decide +kernel) rfl, ⟨by decide, by decide⟩, by decide +kernel⟩
theorem l_L_X11_delete : x_LV RL 147 1 mX11_delete := ⟨wX11_delete, rfl, x_in 1701 (by decide +kernel) rfl, x_in 1702 (by decide +kernel) rfl, x_in 1703 (by decide +kernel) rfl⟩
theorem wL_setIndex : x_Cw mL_setIndex 4 := ⟨x_in 1254 (by decide +kernel) rfl, x_in 107 (by decide +kernel) rfl, ⟨by decide, by decide⟩, by decide +kernel⟩
theorem l_L_L_setIndex : x_LSX RL 148 4 mL_setIndex := ⟨wL_setIndex, ⟨_, _, rfl⟩, x_in 1253 (by decide +kernel) rfl, x_in 1252 (by decide +kernel) rfl⟩
theorem wX11_setIndex : x_Cw mX11_setIndex 2 := ⟨x_in 1708 (by decide +kernel) rfl, x_in 117 (by decide +kernel) rfl, ⟨by decide, by decide⟩, by decide +kernel⟩
theorem l_L_X11_setIndex : x_LV RL 151 2 mX11_setIndex := ⟨wX11_setIndex, rfl, x_in 1705 (by decide +kernel) rfl, x_in 1706 (by decide +kernel) rfl, x_in 1707 (by decide +kernel) rfl⟩
theorem wX10_analyze : x_Cw mX10_analyze 0 := ⟨x_in 411 (by decide +kernel) rfl, x_in 108 (by decide +kernel) rfl, ⟨by decide, by decide⟩, by decide +kernel⟩
theorem l_L_X10_analyze : x_LV RL 152 0 mX10_analyze := ⟨wX10_analyze, rfl, x_in 408 (by decide +kernel) rfl, x_in 409 (by decide +kernel) rfl, x_in 410 (by decide +kernel) rfl⟩
theorem wX11_analyze : x_Cw mX11_analyze 0 := ⟨x_in 1712 (by decide +kernel) rfl, x_in 117 (by decide +kernel) rfl, ⟨by decide, by decide⟩, by decide +kernel⟩
theorem l_L_X11_analyze : x_LV RL 155 0 mX11_analyze := ⟨wX11_analyze, rfl, x_in 1709 (by decide +kernel) rfl, x_in 1710 (by decide +kernel) rfl, x_in 1711 (by decide +kernel) rfl⟩
theorem wX10_undo : x_Cw mX10_undo 0 := ⟨x_in 474 (by decide +kernel) rfl, x_in 108 (by decide +kernel) rfl, ⟨by decide, by decide⟩, by decide +kernel⟩
theorem l_L_X10_undo : x_LV RL 156 0 mX10_undo := ⟨wX10_undo, rfl, x_in 471 (by decide +kernel) rfl, x_in 472 (by decide +kernel) rfl, x_in 473 (by decide +kernel) rfl⟩
theorem wX11_undo : x_Cw mX11_undo 0 := ⟨x_in 1716 (by decide +kernel) rfl, x_in 117 (by decide +kernel) rfl, ⟨by decide, by decide⟩, by decide +kernel⟩
theorem l_L_X11_undo : x_LV RL 159 0 mX11_undo := ⟨wX11_undo, rfl, x_in 1713 (by decide +kernel) rfl, x_in 1714 (by decide +kernel) rfl, x_in 1715 (by decide +kernel) rfl⟩
theorem wX10_checksum : x_Cw mX10_checksum 0 := ⟨x_in 478 (by decide +kernel) rfl, x_in 108 (by decide +kernel) rfl, ⟨by decide, by decide⟩, by decide +kernel⟩
theorem l_L_X10_checksum : x_LV RL 160 0 mX10_checksum := ⟨wX10_checksum, rfl, x_in 475 (by decide +kernel) rfl, x_in 476 (by decide +kernel) rfl, x_in 477 (by decide +kernel) rfl⟩
theorem wX11_checksum : x_Cw mX11_checksum 0 := ⟨x_in 1720 (by decide +kernel) rfl, x_in 117 (by decide +kernel) rfl, ⟨by decide, by decide⟩, by decide +kernel⟩
theorem l_L_X11_checksum : x_LV RL 164 0 mX11_checksum := ⟨wX11_checksum, rfl, x_in 1717 (by decide +kernel) rfl, x_in 1718 (by decide +kernel) rfl, x_in 1719 (by decide +kernel) rfl⟩
theorem wX11_plain : x_Cw mX11_plain 0 := ⟨x_in 1268 (by decide +kernel) rfl, x_in 117 (by decide +kernel) rfl, ⟨by decide, by decide⟩, by decide +kernel⟩
theorem l_X11_X11_plain : x_LV RX11 30 0 mX11_plain := ⟨wX11_plain, rfl, x_in 1265 (by decide +kernel) rfl, x_in 1267 (by decide +kernel) rfl, x_in 42 (by decide +kernel) rfl⟩
theorem wX11_put : x_Cw mX11_put 2 := ⟨x_in 1272 (by decide +kernel) rfl, x_in 117 (by decide +kernel) rfl, ⟨by decide, by decide⟩, by decide +kernel⟩
theorem l_X11_X11_put : x_LV RX11 33 2 mX11_put := ⟨wX11_put, rfl, x_in 1269 (by decide +kernel) rfl, x_in 1271 (by decide +kernel) rfl, x_in 43 (by decide +kernel) rfl⟩
theorem wX11_columnAt : x_Cw mX11_columnAt 2 := ⟨x_in 1424 (by decide +kernel) rfl, x_in 117 (by decide +kernel) rfl, ⟨by decide, by decide⟩, by decide +kernel⟩
theorem l_X11_X11_columnAt : x_LS RX11 46 2 mX11_columnAt := ⟨wX11_columnAt, rfl, x_in 1423 (by decide +kernel) rfl, x_in 1422 (by decide +kernel) rfl⟩
theorem wX11_get : x_Cw mX11_get 1 := ⟨x_in 1519 (by decide +kernel) rfl, x_in 117 (by decide +kernel) rfl, ⟨by decide, by decide⟩, by decide +kernel⟩
theorem l_X11_X11_get : x_LV RX11 50 1 mX11_get := ⟨wX11_get, rfl, x_in 1516 (by decide +kernel) rfl, x_in 1518 (by decide +kernel) rfl, x_in 77 (by decide +kernel) rfl⟩
theorem wX11_statementAt : x_Cw mX11_statementAt 2 := ⟨x_in 1462 (by decide +kernel) rfl, x_in 117 (by decide +kernel) rfl, ⟨by decide, by decide⟩, by decide +kernel⟩
theorem l_X11_X11_statementAt : x_LS RX11 54 2 mX11_statementAt := ⟨wX11_statementAt, rfl, x_in 1461 (by decide +kernel) rfl, x_in 1460 (by decide +kernel) rfl⟩
theorem wX11_codeAt : x_Cw mX11_codeAt 2 := ⟨x_in 1485 (by decide +kernel) rfl, x_in 117 (by decide +kernel) rfl, ⟨by decide, by decide⟩, by decide +kernel⟩
theorem l_X11_X11_codeAt : x_LS RX11 57 2 mX11_codeAt := ⟨wX11_codeAt, rfl, x_in 1484 (by decide +kernel) rfl, x_in 1483 (by decide +kernel) rfl⟩
theorem wX11_sees : x_Cw mX11_sees 0 := ⟨x_in 1373 (by decide +kernel) rfl, x_in 117 (by decide +kernel) rfl, ⟨by decide, by decide⟩, by decide +kernel⟩
theorem l_X11_X11_sees : x_LV RX11 75 0 mX11_sees := ⟨wX11_sees, rfl, x_in 1370 (by decide +kernel) rfl, x_in 1372 (by decide +kernel) rfl, x_in 49 (by decide +kernel) rfl⟩
theorem wX11_isLetterOf : x_Cw mX11_isLetterOf 1 := ⟨x_in 1376 (by decide +kernel) rfl, x_in 117 (by decide +kernel) rfl, ⟨by decide, by decide⟩, by decide +kernel⟩
theorem l_X11_X11_isLetterOf : x_LS RX11 79 1 mX11_isLetterOf := ⟨wX11_isLetterOf, rfl, x_in 1375 (by decide +kernel) rfl, x_in 1374 (by decide +kernel) rfl⟩
theorem wX11_wordEnd : x_Cw mX11_wordEnd 0 := ⟨x_in 1369 (by decide +kernel) rfl, x_in 117 (by decide +kernel) rfl, ⟨by decide, by decide⟩, by decide +kernel⟩
theorem l_X11_X11_wordEnd : x_LV RX11 83 0 mX11_wordEnd := ⟨wX11_wordEnd, rfl, x_in 1366 (by decide +kernel) rfl, x_in 1368 (by decide +kernel) rfl, x_in 48 (by decide +kernel) rfl⟩
theorem wX11_isHere : x_Cw mX11_isHere 1 := ⟨x_in 1365 (by decide +kernel) rfl, x_in 117 (by decide +kernel) rfl, ⟨by decide, by decide⟩, by decide +kernel⟩
theorem l_X11_X11_isHere : x_LV RX11 95 1 mX11_isHere := ⟨wX11_isHere, rfl, x_in 1362 (by decide +kernel) rfl, x_in 1364 (by decide +kernel) rfl, x_in 47 (by decide +kernel) rfl⟩
theorem wX11_fails : x_Cw mX11_fails 2 := ⟨x_in 1382 (by decide +kernel) rfl, x_in 117 (by decide +kernel) rfl, ⟨by decide, by decide⟩, by decide +kernel⟩
theorem l_X11_X11_fails : x_LV RX11 99 2 mX11_fails := ⟨wX11_fails, rfl, x_in 1379 (by decide +kernel) rfl, x_in 1381 (by decide +kernel) rfl, x_in 50 (by decide +kernel) rfl⟩
theorem wX11_isDigit : x_Cw mX11_isDigit 0 := ⟨x_in 1452 (by decide +kernel) rfl, x_in 117 (by decide +kernel) rfl, ⟨by decide, by decide⟩, by decide +kernel⟩
theorem l_X11_X11_isDigit : x_LV RX11 102 0 mX11_isDigit := ⟨wX11_isDigit, rfl, x_in 1449 (by decide +kernel) rfl, x_in 1451 (by decide +kernel) rfl, x_in 63 (by decide +kernel) rfl⟩
theorem wX11_isIn : x_Cw mX11_isIn 3 := ⟨x_in 1348 (by decide +kernel) rfl, x_in 117 (by decide +kernel) rfl, ⟨by decide, by decide⟩, by decide +kernel⟩
theorem l_X11_X11_isIn : x_LS RX11 115 3 mX11_isIn := ⟨wX11_isIn, rfl, x_in 1347 (by decide +kernel) rfl, x_in 1346 (by decide +kernel) rfl⟩
theorem wX11_isName : x_Cw mX11_isName 0 := ⟨x_in 1403 (by decide +kernel) rfl, x_in 117 (by decide +kernel) rfl, ⟨by decide, by decide⟩, by decide +kernel⟩
theorem l_X11_X11_isName : x_LV RX11 131 0 mX11_isName := ⟨wX11_isName, rfl, x_in 1400 (by decide +kernel) rfl, x_in 1402 (by decide +kernel) rfl, x_in 55 (by decide +kernel) rfl⟩
theorem wX11_reach : x_Cw mX11_reach 0 := ⟨x_in 1410 (by decide +kernel) rfl, x_in 117 (by decide +kernel) rfl, ⟨by decide, by decide⟩, by decide +kernel⟩
theorem l_X11_X11_reach : x_LV RX11 134 0 mX11_reach := ⟨wX11_reach, rfl, x_in 1407 (by decide +kernel) rfl, x_in 1409 (by decide +kernel) rfl, x_in 56 (by decide +kernel) rfl⟩
theorem wX11_seek : x_Cw mX11_seek 3 := ⟨x_in 1414 (by decide +kernel) rfl, x_in 117 (by decide +kernel) rfl, ⟨by decide, by decide⟩, by decide +kernel⟩
theorem l_X11_X11_seek : x_LV RX11 137 3 mX11_seek := ⟨wX11_seek, rfl, x_in 1411 (by decide +kernel) rfl, x_in 1413 (by decide +kernel) rfl, x_in 57 (by decide +kernel) rfl⟩
theorem wX11_nameInto : x_Cw mX11_nameInto 1 := ⟨x_in 1418 (by decide +kernel) rfl, x_in 117 (by decide +kernel) rfl, ⟨by decide, by decide⟩, by decide +kernel⟩
theorem l_X11_X11_nameInto : x_LV RX11 141 1 mX11_nameInto := ⟨wX11_nameInto, rfl, x_in 1415 (by decide +kernel) rfl, x_in 1417 (by decide +kernel) rfl, x_in 58 (by decide +kernel) rfl⟩
theorem wX11_term : x_Cw mX11_term 1 := ⟨x_in 1470 (by decide +kernel) rfl, x_in 117 (by decide +kernel) rfl, ⟨by decide, by decide⟩, by decide +kernel⟩
theorem l_X11_X11_term : x_LV RX11 145 1 mX11_term := ⟨wX11_term, rfl, x_in 1467 (by decide +kernel) rfl, x_in 1469 (by decide +kernel) rfl, x_in 66 (by decide +kernel) rfl⟩
theorem wX11_takes : x_Cw mX11_takes 1 := ⟨x_in 1361 (by decide +kernel) rfl, x_in 117 (by decide +kernel) rfl, ⟨by decide, by decide⟩, by decide +kernel⟩
theorem l_X11_X11_takes : x_LV RX11 149 1 mX11_takes := ⟨wX11_takes, rfl, x_in 1358 (by decide +kernel) rfl, x_in 1360 (by decide +kernel) rfl, x_in 46 (by decide +kernel) rfl⟩
theorem wX11_codes : x_Cw mX11_codes 2 := ⟨x_in 1482 (by decide +kernel) rfl, x_in 117 (by decide +kernel) rfl, ⟨by decide, by decide⟩, by decide +kernel⟩
theorem l_X11_X11_codes : x_LV RX11 152 2 mX11_codes := ⟨wX11_codes, rfl, x_in 1479 (by decide +kernel) rfl, x_in 1481 (by decide +kernel) rfl, x_in 69 (by decide +kernel) rfl⟩
theorem wX11_factor : x_Cw mX11_factor 1 := ⟨x_in 1474 (by decide +kernel) rfl, x_in 117 (by decide +kernel) rfl, ⟨by decide, by decide⟩, by decide +kernel⟩
theorem l_X11_X11_factor : x_LV RX11 155 1 mX11_factor := ⟨wX11_factor, rfl, x_in 1471 (by decide +kernel) rfl, x_in 1473 (by decide +kernel) rfl, x_in 67 (by decide +kernel) rfl⟩
theorem wX11_deepens : x_Cw mX11_deepens 0 := ⟨x_in 1478 (by decide +kernel) rfl, x_in 117 (by decide +kernel) rfl, ⟨by decide, by decide⟩, by decide +kernel⟩
theorem l_X11_X11_deepens : x_LV RX11 161 0 mX11_deepens := ⟨wX11_deepens, rfl, x_in 1475 (by decide +kernel) rfl, x_in 1477 (by decide +kernel) rfl, x_in 68 (by decide +kernel) rfl⟩
theorem wX11_condition : x_Cw mX11_condition 1 := ⟨x_in 1466 (by decide +kernel) rfl, x_in 117 (by decide +kernel) rfl, ⟨by decide, by decide⟩, by decide +kernel⟩
theorem l_X11_X11_condition : x_LV RX11 164 1 mX11_condition := ⟨wX11_condition, rfl, x_in 1463 (by decide +kernel) rfl, x_in 1465 (by decide +kernel) rfl, x_in 65 (by decide +kernel) rfl⟩
theorem wX11_wants : x_Cw mX11_wants 1 := ⟨x_in 1386 (by decide +kernel) rfl, x_in 117 (by decide +kernel) rfl, ⟨by decide, by decide⟩, by decide +kernel⟩
theorem l_X11_X11_wants : x_LV RX11 167 1 mX11_wants := ⟨wX11_wants, rfl, x_in 1383 (by decide +kernel) rfl, x_in 1385 (by decide +kernel) rfl, x_in 51 (by decide +kernel) rfl⟩
theorem wX11_comparison : x_Cw mX11_comparison 1 := ⟨x_in 1489 (by decide +kernel) rfl, x_in 117 (by decide +kernel) rfl, ⟨by decide, by decide⟩, by decide +kernel⟩
theorem l_X11_X11_comparison : x_LV RX11 170 1 mX11_comparison := ⟨wX11_comparison, rfl, x_in 1486 (by decide +kernel) rfl, x_in 1488 (by decide +kernel) rfl, x_in 70 (by decide +kernel) rfl⟩
theorem wX11_knownColumn : x_Cw mX11_knownColumn 0 := ⟨x_in 1433 (by decide +kernel) rfl, x_in 117 (by decide +kernel) rfl, ⟨by decide, by decide⟩, by decide +kernel⟩
theorem l_X11_X11_knownColumn : x_LV RX11 173 0 mX11_knownColumn := ⟨wX11_knownColumn, rfl, x_in 1430 (by decide +kernel) rfl, x_in 1432 (by decide +kernel) rfl, x_in 60 (by decide +kernel) rfl⟩
theorem wX11_mostOf : x_Cw mX11_mostOf 1 := ⟨x_in 1444 (by decide +kernel) rfl, x_in 117 (by decide +kernel) rfl, ⟨by decide, by decide⟩, by decide +kernel⟩
theorem l_X11_X11_mostOf : x_LS RX11 176 1 mX11_mostOf := ⟨wX11_mostOf, rfl, x_in 1443 (by decide +kernel) rfl, x_in 1442 (by decide +kernel) rfl⟩
theorem wX11_reads : x_Cw mX11_reads 2 := ⟨x_in 1448 (by decide +kernel) rfl, x_in 117 (by decide +kernel) rfl, ⟨by decide, by decide⟩, by decide +kernel⟩
theorem l_X11_X11_reads : x_LV RX11 179 2 mX11_reads := ⟨wX11_reads, rfl, x_in 1445 (by decide +kernel) rfl, x_in 1447 (by decide +kernel) rfl, x_in 62 (by decide +kernel) rfl⟩
theorem wX11_holeHere : x_Cw mX11_holeHere 1 := ⟨x_in 1493 (by decide +kernel) rfl, x_in 117 (by decide +kernel) rfl, ⟨by decide, by decide⟩, by decide +kernel⟩
theorem l_X11_X11_holeHere : x_LV RX11 182 1 mX11_holeHere := ⟨wX11_holeHere, rfl, x_in 1490 (by decide +kernel) rfl, x_in 1492 (by decide +kernel) rfl, x_in 71 (by decide +kernel) rfl⟩
theorem wX11_columnHere : x_Cw mX11_columnHere 1 := ⟨x_in 1497 (by decide +kernel) rfl, x_in 117 (by decide +kernel) rfl, ⟨by decide, by decide⟩, by decide +kernel⟩
theorem l_X11_X11_columnHere : x_LV RX11 185 1 mX11_columnHere := ⟨wX11_columnHere, rfl, x_in 1494 (by decide +kernel) rfl, x_in 1496 (by decide +kernel) rfl, x_in 72 (by decide +kernel) rfl⟩
theorem wX11_freshName : x_Cw mX11_freshName 3 := ⟨x_in 1399 (by decide +kernel) rfl, x_in 117 (by decide +kernel) rfl, ⟨by decide, by decide⟩, by decide +kernel⟩
theorem l_X11_X11_freshName : x_LV RX11 191 3 mX11_freshName := ⟨wX11_freshName, rfl, x_in 1396 (by decide +kernel) rfl, x_in 1398 (by decide +kernel) rfl, x_in 54 (by decide +kernel) rfl⟩
theorem wX11_valueAt : x_Cw mX11_valueAt 2 := ⟨x_in 1441 (by decide +kernel) rfl, x_in 117 (by decide +kernel) rfl, ⟨by decide, by decide⟩, by decide +kernel⟩
theorem l_X11_X11_valueAt : x_LS RX11 201 2 mX11_valueAt := ⟨wX11_valueAt, rfl, x_in 1440 (by decide +kernel) rfl, x_in 1439 (by decide +kernel) rfl⟩
theorem wX11_startOf : x_Cw mX11_startOf 1 := ⟨x_in 1391 (by decide +kernel) rfl, x_in 117 (by decide +kernel) rfl, ⟨by decide, by decide⟩, by decide +kernel⟩
theorem l_X11_X11_startOf : x_LV RX11 208 1 mX11_startOf := ⟨wX11_startOf, rfl, x_in 1388 (by decide +kernel) rfl, x_in 1390 (by decide +kernel) rfl, x_in 52 (by decide +kernel) rfl⟩
theorem wX11_columnLine : x_Cw mX11_columnLine 1 := ⟨x_in 1395 (by decide +kernel) rfl, x_in 117 (by decide +kernel) rfl, ⟨by decide, by decide⟩, by decide +kernel⟩
theorem l_X11_X11_columnLine : x_LV RX11 212 1 mX11_columnLine := ⟨wX11_columnLine, rfl, x_in 1392 (by decide +kernel) rfl, x_in 1394 (by decide +kernel) rfl, x_in 53 (by decide +kernel) rfl⟩
theorem wX11_indexLine : x_Cw mX11_indexLine 0 := ⟨x_in 1429 (by decide +kernel) rfl, x_in 117 (by decide +kernel) rfl, ⟨by decide, by decide⟩, by decide +kernel⟩
theorem l_X11_X11_indexLine : x_LV RX11 217 0 mX11_indexLine := ⟨wX11_indexLine, rfl, x_in 1426 (by decide +kernel) rfl, x_in 1428 (by decide +kernel) rfl, x_in 59 (by decide +kernel) rfl⟩
theorem wX11_rowLine : x_Cw mX11_rowLine 1 := ⟨x_in 1438 (by decide +kernel) rfl, x_in 117 (by decide +kernel) rfl, ⟨by decide, by decide⟩, by decide +kernel⟩
theorem l_X11_X11_rowLine : x_LV RX11 222 1 mX11_rowLine := ⟨wX11_rowLine, rfl, x_in 1435 (by decide +kernel) rfl, x_in 1437 (by decide +kernel) rfl, x_in 61 (by decide +kernel) rfl⟩
theorem wX11_prepareLine : x_Cw mX11_prepareLine 1 := ⟨x_in 1459 (by decide +kernel) rfl, x_in 117 (by decide +kernel) rfl, ⟨by decide, by decide⟩, by decide +kernel⟩
theorem l_X11_X11_prepareLine : x_LV RX11 227 1 mX11_prepareLine := ⟨wX11_prepareLine, rfl, x_in 1456 (by decide +kernel) rfl, x_in 1458 (by decide +kernel) rfl, x_in 64 (by decide +kernel) rfl⟩
theorem wX11_costLine : x_Cw mX11_costLine 0 := ⟨x_in 1502 (by decide +kernel) rfl, x_in 117 (by decide +kernel) rfl, ⟨by decide, by decide⟩, by decide +kernel⟩
theorem l_X11_X11_costLine : x_LV RX11 232 0 mX11_costLine := ⟨wX11_costLine, rfl, x_in 1499 (by decide +kernel) rfl, x_in 1501 (by decide +kernel) rfl, x_in 73 (by decide +kernel) rfl⟩
theorem wX11_triesLine : x_Cw mX11_triesLine 0 := ⟨x_in 1507 (by decide +kernel) rfl, x_in 117 (by decide +kernel) rfl, ⟨by decide, by decide⟩, by decide +kernel⟩
theorem l_X11_X11_triesLine : x_LV RX11 237 0 mX11_triesLine := ⟨wX11_triesLine, rfl, x_in 1504 (by decide +kernel) rfl, x_in 1506 (by decide +kernel) rfl, x_in 74 (by decide +kernel) rfl⟩
theorem wX11_right : x_Cw mX11_right 2 := ⟨x_in 1352 (by decide +kernel) rfl, x_in 117 (by decide +kernel) rfl, ⟨by decide, by decide⟩, by decide +kernel⟩
theorem l_X11_X11_right : x_LV RX11 240 2 mX11_right := ⟨wX11_right, rfl, x_in 1349 (by decide +kernel) rfl, x_in 1351 (by decide +kernel) rfl, x_in 44 (by decide +kernel) rfl⟩
theorem wX11_texts : x_Cw mX11_texts 0 := ⟨x_in 1356 (by decide +kernel) rfl, x_in 117 (by decide +kernel) rfl, ⟨by decide, by decide⟩, by decide +kernel⟩
theorem l_X11_X11_texts : x_LV RX11 244 0 mX11_texts := ⟨wX11_texts, rfl, x_in 1353 (by decide +kernel) rfl, x_in 1355 (by decide +kernel) rfl, x_in 45 (by decide +kernel) rfl⟩
theorem wX11_change : x_Cw mX11_change 0 := ⟨x_in 1511 (by decide +kernel) rfl, x_in 117 (by decide +kernel) rfl, ⟨by decide, by decide⟩, by decide +kernel⟩
theorem l_X11_X11_change : x_LV RX11 247 0 mX11_change := ⟨wX11_change, rfl, x_in 1508 (by decide +kernel) rfl, x_in 1510 (by decide +kernel) rfl, x_in 75 (by decide +kernel) rfl⟩
theorem wX11_looks : x_Cw mX11_looks 0 := ⟨x_in 1515 (by decide +kernel) rfl, x_in 117 (by decide +kernel) rfl, ⟨by decide, by decide⟩, by decide +kernel⟩
theorem l_X11_X11_looks : x_LV RX11 250 0 mX11_looks := ⟨wX11_looks, rfl, x_in 1512 (by decide +kernel) rfl, x_in 1514 (by decide +kernel) rfl, x_in 76 (by decide +kernel) rfl⟩
theorem wX11_unlike : x_Cw mX11_unlike 1 := ⟨x_in 1523 (by decide +kernel) rfl, x_in 117 (by decide +kernel) rfl, ⟨by decide, by decide⟩, by decide +kernel⟩
theorem l_X11_X11_unlike : x_LV RX11 256 1 mX11_unlike := ⟨wX11_unlike, rfl, x_in 1520 (by decide +kernel) rfl, x_in 1522 (by decide +kernel) rfl, x_in 78 (by decide +kernel) rfl⟩
theorem wX11_extreme : x_Cw mX11_extreme 2 := ⟨x_in 1527 (by decide +kernel) rfl, x_in 117 (by decide +kernel) rfl, ⟨by decide, by decide⟩, by decide +kernel⟩
theorem l_X11_X11_extreme : x_LV RX11 259 2 mX11_extreme := ⟨wX11_extreme, rfl, x_in 1524 (by decide +kernel) rfl, x_in 1526 (by decide +kernel) rfl, x_in 79 (by decide +kernel) rfl⟩
theorem wX11_ofCode : x_Cw mX11_ofCode 2 := ⟨x_in 1617 (by decide +kernel) rfl, x_in 117 (by decide +kernel) rfl, ⟨by decide, by decide⟩, by decide +kernel⟩
theorem l_X11_X11_ofCode : x_LV RX11 263 2 mX11_ofCode := ⟨wX11_ofCode, rfl, x_in 1614 (by decide +kernel) rfl, x_in 1616 (by decide +kernel) rfl, x_in 90 (by decide +kernel) rfl⟩
theorem wX11_ofColumn : x_Cw mX11_ofColumn 2 := ⟨x_in 1550 (by decide +kernel) rfl, x_in 117 (by decide +kernel) rfl, ⟨by decide, by decide⟩, by decide +kernel⟩
theorem l_X11_X11_ofColumn : x_LV RX11 266 2 mX11_ofColumn := ⟨wX11_ofColumn, rfl, x_in 1547 (by decide +kernel) rfl, x_in 1549 (by decide +kernel) rfl, x_in 81 (by decide +kernel) rfl⟩
theorem wX11_up : x_Cw mX11_up 2 := ⟨x_in 1628 (by decide +kernel) rfl, x_in 117 (by decide +kernel) rfl, ⟨by decide, by decide⟩, by decide +kernel⟩
theorem l_X11_X11_up : x_LS RX11 269 2 mX11_up := ⟨wX11_up, rfl, x_in 1627 (by decide +kernel) rfl, x_in 1626 (by decide +kernel) rfl⟩
theorem wX11_seenEstimate : x_Cw mX11_seenEstimate 2 := ⟨x_in 1625 (by decide +kernel) rfl, x_in 117 (by decide +kernel) rfl, ⟨by decide, by decide⟩, by decide +kernel⟩
theorem l_X11_X11_seenEstimate : x_LV RX11 272 2 mX11_seenEstimate := ⟨wX11_seenEstimate, rfl, x_in 1622 (by decide +kernel) rfl, x_in 1624 (by decide +kernel) rfl, x_in 92 (by decide +kernel) rfl⟩
theorem wX11_ofStatement : x_Cw mX11_ofStatement 2 := ⟨x_in 1566 (by decide +kernel) rfl, x_in 117 (by decide +kernel) rfl, ⟨by decide, by decide⟩, by decide +kernel⟩
theorem l_X11_X11_ofStatement : x_LV RX11 275 2 mX11_ofStatement := ⟨wX11_ofStatement, rfl, x_in 1563 (by decide +kernel) rfl, x_in 1565 (by decide +kernel) rfl, x_in 83 (by decide +kernel) rfl⟩
theorem wX11_estimate : x_Cw mX11_estimate 2 := ⟨x_in 1621 (by decide +kernel) rfl, x_in 117 (by decide +kernel) rfl, ⟨by decide, by decide⟩, by decide +kernel⟩
theorem l_X11_X11_estimate : x_LV RX11 278 2 mX11_estimate := ⟨wX11_estimate, rfl, x_in 1618 (by decide +kernel) rfl, x_in 1620 (by decide +kernel) rfl, x_in 91 (by decide +kernel) rfl⟩
theorem wX11_chosen : x_Cw mX11_chosen 3 := ⟨x_in 1613 (by decide +kernel) rfl, x_in 117 (by decide +kernel) rfl, ⟨by decide, by decide⟩, by decide +kernel⟩
theorem l_X11_X11_chosen : x_LV RX11 281 3 mX11_chosen := ⟨wX11_chosen, rfl, x_in 1610 (by decide +kernel) rfl, x_in 1612 (by decide +kernel) rfl, x_in 89 (by decide +kernel) rfl⟩
theorem wX11_costOf : x_Cw mX11_costOf 3 := ⟨x_in 1609 (by decide +kernel) rfl, x_in 117 (by decide +kernel) rfl, ⟨by decide, by decide⟩, by decide +kernel⟩
theorem l_X11_X11_costOf : x_LV RX11 285 3 mX11_costOf := ⟨wX11_costOf, rfl, x_in 1606 (by decide +kernel) rfl, x_in 1608 (by decide +kernel) rfl, x_in 88 (by decide +kernel) rfl⟩
theorem wX11_isTrue : x_Cw mX11_isTrue 2 := ⟨x_in 1672 (by decide +kernel) rfl, x_in 117 (by decide +kernel) rfl, ⟨by decide, by decide⟩, by decide +kernel⟩
theorem l_X11_X11_isTrue : x_LV RX11 288 2 mX11_isTrue := ⟨wX11_isTrue, rfl, x_in 1669 (by decide +kernel) rfl, x_in 1671 (by decide +kernel) rfl, x_in 99 (by decide +kernel) rfl⟩
theorem wX11_noColumn : x_Cw mX11_noColumn 1 := ⟨x_in 1545 (by decide +kernel) rfl, x_in 117 (by decide +kernel) rfl, ⟨by decide, by decide⟩, by decide +kernel⟩
theorem l_X11_X11_noColumn : x_LV RX11 294 1 mX11_noColumn := ⟨wX11_noColumn, rfl, x_in 1542 (by decide +kernel) rfl, x_in 1544 (by decide +kernel) rfl, x_in 80 (by decide +kernel) rfl⟩
theorem wX11_nameOf : x_Cw mX11_nameOf 1 := ⟨x_in 1562 (by decide +kernel) rfl, x_in 117 (by decide +kernel) rfl, ⟨by decide, by decide⟩, by decide +kernel⟩
theorem l_X11_X11_nameOf : x_LV RX11 299 1 mX11_nameOf := ⟨wX11_nameOf, rfl, x_in 1559 (by decide +kernel) rfl, x_in 1561 (by decide +kernel) rfl, x_in 82 (by decide +kernel) rfl⟩
theorem wX11_noStatement : x_Cw mX11_noStatement 1 := ⟨x_in 1574 (by decide +kernel) rfl, x_in 117 (by decide +kernel) rfl, ⟨by decide, by decide⟩, by decide +kernel⟩
theorem l_X11_X11_noStatement : x_LV RX11 302 1 mX11_noStatement := ⟨wX11_noStatement, rfl, x_in 1571 (by decide +kernel) rfl, x_in 1573 (by decide +kernel) rfl, x_in 84 (by decide +kernel) rfl⟩
theorem wX11_stateOf : x_Cw mX11_stateOf 1 := ⟨x_in 1588 (by decide +kernel) rfl, x_in 117 (by decide +kernel) rfl, ⟨by decide, by decide⟩, by decide +kernel⟩
theorem l_X11_X11_stateOf : x_LV RX11 307 1 mX11_stateOf := ⟨wX11_stateOf, rfl, x_in 1585 (by decide +kernel) rfl, x_in 1587 (by decide +kernel) rfl, x_in 86 (by decide +kernel) rfl⟩
theorem wX11_toldOf : x_Cw mX11_toldOf 2 := ⟨x_in 1584 (by decide +kernel) rfl, x_in 117 (by decide +kernel) rfl, ⟨by decide, by decide⟩, by decide +kernel⟩
theorem l_X11_X11_toldOf : x_LV RX11 312 2 mX11_toldOf := ⟨wX11_toldOf, rfl, x_in 1581 (by decide +kernel) rfl, x_in 1583 (by decide +kernel) rfl, x_in 85 (by decide +kernel) rfl⟩
theorem wX11_isPlan : x_Cw mX11_isPlan 1 := ⟨x_in 1604 (by decide +kernel) rfl, x_in 117 (by decide +kernel) rfl, ⟨by decide, by decide⟩, by decide +kernel⟩
theorem l_X11_X11_isPlan : x_LV RX11 317 1 mX11_isPlan := ⟨wX11_isPlan, rfl, x_in 1601 (by decide +kernel) rfl, x_in 1603 (by decide +kernel) rfl, x_in 87 (by decide +kernel) rfl⟩
theorem wX11_isValue : x_Cw mX11_isValue 3 := ⟨x_in 1640 (by decide +kernel) rfl, x_in 117 (by decide +kernel) rfl, ⟨by decide, by decide⟩, by decide +kernel⟩
theorem l_X11_X11_isValue : x_LV RX11 320 3 mX11_isValue := ⟨wX11_isValue, rfl, x_in 1637 (by decide +kernel) rfl, x_in 1639 (by decide +kernel) rfl, x_in 94 (by decide +kernel) rfl⟩
theorem wX11_takesValues : x_Cw mX11_takesValues 5 := ⟨x_in 1636 (by decide +kernel) rfl, x_in 117 (by decide +kernel) rfl, ⟨by decide, by decide⟩, by decide +kernel⟩
theorem l_X11_X11_takesValues : x_LV RX11 324 5 mX11_takesValues := ⟨wX11_takesValues, rfl, x_in 1633 (by decide +kernel) rfl, x_in 1635 (by decide +kernel) rfl, x_in 93 (by decide +kernel) rfl⟩
theorem wX11_bestPlan : x_Cw mX11_bestPlan 2 := ⟨x_in 1644 (by decide +kernel) rfl, x_in 117 (by decide +kernel) rfl, ⟨by decide, by decide⟩, by decide +kernel⟩
theorem l_X11_X11_bestPlan : x_LV RX11 328 2 mX11_bestPlan := ⟨wX11_bestPlan, rfl, x_in 1641 (by decide +kernel) rfl, x_in 1643 (by decide +kernel) rfl, x_in 95 (by decide +kernel) rfl⟩
theorem wX11_isFresh : x_Cw mX11_isFresh 1 := ⟨x_in 1656 (by decide +kernel) rfl, x_in 117 (by decide +kernel) rfl, ⟨by decide, by decide⟩, by decide +kernel⟩
theorem l_X11_X11_isFresh : x_LV RX11 331 1 mX11_isFresh := ⟨wX11_isFresh, rfl, x_in 1653 (by decide +kernel) rfl, x_in 1655 (by decide +kernel) rfl, x_in 96 (by decide +kernel) rfl⟩
theorem wX11_isGeneric : x_Cw mX11_isGeneric 2 := ⟨x_in 1660 (by decide +kernel) rfl, x_in 117 (by decide +kernel) rfl, ⟨by decide, by decide⟩, by decide +kernel⟩
theorem l_X11_X11_isGeneric : x_LV RX11 334 2 mX11_isGeneric := ⟨wX11_isGeneric, rfl, x_in 1657 (by decide +kernel) rfl, x_in 1659 (by decide +kernel) rfl, x_in 97 (by decide +kernel) rfl⟩
theorem wX11_finds : x_Cw mX11_finds 2 := ⟨x_in 1668 (by decide +kernel) rfl, x_in 117 (by decide +kernel) rfl, ⟨by decide, by decide⟩, by decide +kernel⟩
theorem l_X11_X11_finds : x_LV RX11 337 2 mX11_finds := ⟨wX11_finds, rfl, x_in 1665 (by decide +kernel) rfl, x_in 1667 (by decide +kernel) rfl, x_in 98 (by decide +kernel) rfl⟩
theorem wX11_add : x_Cw mX11_add 2 := ⟨x_in 1684 (by decide +kernel) rfl, x_in 117 (by decide +kernel) rfl, ⟨by decide, by decide⟩, by decide +kernel⟩
theorem l_X11_X11_add : x_LV RX11 340 2 mX11_add := ⟨wX11_add, rfl, x_in 1681 (by decide +kernel) rfl, x_in 1683 (by decide +kernel) rfl, x_in 101 (by decide +kernel) rfl⟩
theorem wX11_learns : x_Cw mX11_learns 5 := ⟨x_in 1692 (by decide +kernel) rfl, x_in 117 (by decide +kernel) rfl, ⟨by decide, by decide⟩, by decide +kernel⟩
theorem l_X11_X11_learns : x_LV RX11 343 5 mX11_learns := ⟨wX11_learns, rfl, x_in 1689 (by decide +kernel) rfl, x_in 1691 (by decide +kernel) rfl, x_in 103 (by decide +kernel) rfl⟩
theorem wX11_makesGeneric : x_Cw mX11_makesGeneric 1 := ⟨x_in 1680 (by decide +kernel) rfl, x_in 117 (by decide +kernel) rfl, ⟨by decide, by decide⟩, by decide +kernel⟩
theorem l_X11_X11_makesGeneric : x_LV RX11 347 1 mX11_makesGeneric := ⟨wX11_makesGeneric, rfl, x_in 1677 (by decide +kernel) rfl, x_in 1679 (by decide +kernel) rfl, x_in 100 (by decide +kernel) rfl⟩
theorem wX11_touches : x_Cw mX11_touches 3 := ⟨x_in 1688 (by decide +kernel) rfl, x_in 117 (by decide +kernel) rfl, ⟨by decide, by decide⟩, by decide +kernel⟩
theorem l_X11_X11_touches : x_LV RX11 350 3 mX11_touches := ⟨wX11_touches, rfl, x_in 1685 (by decide +kernel) rfl, x_in 1687 (by decide +kernel) rfl, x_in 102 (by decide +kernel) rfl⟩
theorem wX11_isCell : x_Cw mX11_isCell 2 := ⟨x_in 1700 (by decide +kernel) rfl, x_in 117 (by decide +kernel) rfl, ⟨by decide, by decide⟩, by decide +kernel⟩
theorem l_X11_X11_isCell : x_LV RX11 354 2 mX11_isCell := ⟨wX11_isCell, rfl, x_in 1697 (by decide +kernel) rfl, x_in 1699 (by decide +kernel) rfl, x_in 104 (by decide +kernel) rfl⟩
theorem wX11_adds : x_Cw mX11_adds 1 := ⟨x_in 1724 (by decide +kernel) rfl, x_in 117 (by decide +kernel) rfl, ⟨by decide, by decide⟩, by decide +kernel⟩
theorem l_X11_X11_adds : x_LV RX11 363 1 mX11_adds := ⟨wX11_adds, rfl, x_in 1721 (by decide +kernel) rfl, x_in 1723 (by decide +kernel) rfl, x_in 105 (by decide +kernel) rfl⟩
theorem wX11_addsStatement : x_Cw mX11_addsStatement 1 := ⟨x_in 1729 (by decide +kernel) rfl, x_in 117 (by decide +kernel) rfl, ⟨by decide, by decide⟩, by decide +kernel⟩
theorem l_X11_X11_addsStatement : x_LV RX11 367 1 mX11_addsStatement := ⟨wX11_addsStatement, rfl, x_in 1726 (by decide +kernel) rfl, x_in 1728 (by decide +kernel) rfl, x_in 106 (by decide +kernel) rfl⟩
end
section
/-! ===== an abstract machine over the kit's rows: cells have names, a method's body has one judgement (x_W), a method one contract (x_M) ===== -/
/-- launch, the law's start, class numbers, slots, array classes, the addresses of the fixed names -/
abbrev XE : Type := Launch × State × (Nat → ClassId) × (Nat → Nat → Nat) × (FieldType → ClassId) × (Nat → Nat)
def x_tr (ad : Nat → Nat) (v : Value) : Value := match v with
  | .ref k => .ref (ad k)
  | v => v
def x_vok (nb : Nat) (v : Value) : Prop := match v with
  | .ref k => k < nb
  | _ => True
def x_cok (nb : Nat) (c : XC) : Prop := match c with
  | .inl (ci, V) => ∀ r : vw_C, vwCl[ci]? = some r → ∀ j, j < r.2.2 → x_vok nb (V j)
  | .inr (_, _, n, f) => ∀ j, j < n → x_vok nb (f j)
def x_tys : List FieldType := [.int, .long, .byte, .boolean, .object "PreparedPlans$Data", .object "PreparedPlans$Usage", .object "java/lang/Object"]
def x_n0 (G : XE) : Nat := G.2.1.heap.size
def x_A (G : XE) : Nat → Prop := fun q => x_n0 G ≤ q
def x_cell (G : XE) (ad : Nat → Nat) (a : Nat) (c : XC) (H : Heap) : Prop := match c with
  | .inl (ci, V) => x_n0 G ≤ a ∧ ∃ r : vw_C, vwCl[ci]? = some r ∧ t_OB a (G.2.2.1 ci) r.2.2 (G.2.2.2.1 ci) H (fun k => x_tr ad (V k))
  | .inr (mu, ty, n, f) => (mu = true → x_n0 G ≤ a) ∧ ty ∈ x_tys ∧ H[a]? = some (arrV (G.2.2.2.2.1 ty) n (fun j => x_tr ad (f j)))
/-- the named cells are there, at addresses that are apart; what they refer to is named below nb; the fixed names lie where they lie -/
def x_R (G : XE) (ad : Nat → Nat) (nb : Nat) (N : XH) (H : Heap) : Prop :=
  (∀ (k : Nat) (c : XC), k ≠ 0 → N k = some c → k < nb ∧ x_cok nb c ∧ x_cell G ad (ad k) c H) ∧ (∀ (i j : Nat) (ci cj : XC), i ≠ 0 → j ≠ 0 → N i = some ci → N j = some cj → ad i = ad j → i = j) ∧ (∀ k, k < 64 → ad k = G.2.2.2.2.2 k) ∧ 64 ≤ nb ∧ (∀ c, N 0 = some c → ∃ f, c = .inl (99, fun _ => .ref f) ∧ nb ≤ f)
def x_ext (nb : Nat) (ad ad' : Nat → Nat) : Prop := ∀ k, k < nb → ad' k = ad k
def x_set (N : XH) (o : Nat) (c : XC) : XH := fun k => if k = o then some c else N k
def x_L (ad : Nat → Nat) (nb nL : Nat) (L : List (Option Value)) (ls : Array Slot) : Prop :=
  (ls.size = nL ∧ L.length ≤ nL) ∧ lv_wf ls ∧ ∀ (i : Nat) (v : Value), L[i]? = some (some v) → ls[i]? = some (.val (x_tr ad v)) ∧ x_vok nb v
def x_kept (G : XE) (H : Heap) : Prop := x_n0 G ≤ H.size ∧ ∀ q, q < x_n0 G → H[q]? = G.2.1.heap[q]?
theorem x_dec {b : ByteArray} {K : XK} (ok : x_okK b K = true) {pc pc' t : Nat} {i : Instr} (h : x_at K pc = some (i, pc', t)) : decode b pc = .ok (i, pc' - pc) ∧ pc ≤ pc' ∧ (x_len i = 0 ∨ x_len i = pc' - pc) ∧ (∀ o, x_off i = some o → (pc : Int) + o = (t : Int)) := by
  have h1 := List.all_eq_true.mp ok _ (x_at_mem K pc _ h)
  simp only [x_okE, Bool.and_eq_true, decide_eq_true_eq, Bool.or_eq_true, beq_iff_eq] at h1
  obtain ⟨⟨⟨h2, h3⟩, h4⟩, h5⟩ := h1
  refine ⟨h2, h3, h4, fun o ho => ?_⟩
  rw [ho] at h5
  exact of_decide_eq_true h5
theorem x_decn {b : ByteArray} {K : XK} (ok : x_okK b K = true) {pc pc' t n : Nat} {i : Instr} (h : x_at K pc = some (i, pc', t)) (hn : x_len i = n + 1) : decode b pc = .ok (i, n + 1) ∧ pc' = pc + (n + 1) := by
  obtain ⟨h1, h2, h3, -⟩ := x_dec ok h
  rcases h3 with h3 | h3
  · omega
  · have e : pc' - pc = n + 1 := by omega
    rw [e] at h1
    exact ⟨h1, by omega⟩
/-- what is known of the law's start: the classes, the arrays' classes, the tables' words, the launch -/
def x_Kn (G : XE) : Prop :=
  (∀ (c : Nat) (q : vw_C), vwCl[c]? = some q → u_Kn G.2.1 q.1 q.2.1 q.2.2 (G.2.2.1 c) (G.2.2.2.1 c)) ∧ (∀ ty, ty ∈ x_tys → ArrOfT G.2.1 (G.2.2.2.2.1 ty) ty ∧ va_RA G.2.1 (G.2.2.2.2.1 ty) ty) ∧ ((∀ w ∈ lw_tbl, w.onTables = true → va_Nw w G.2.1) ∧ ∀ C, Cond.arrayOver (.object C) ∈ lw_tbl → va_AO C G.2.1) ∧ G.1.stackTraces = false ∧
  vx_Zq Bundle.tN "UNASSIGNED_STACK" Bundle.steD (x_A G) G.2.1 G.2.1.heap ∧ vx_Zq Bundle.tN "SUPPRESSED_SENTINEL" Bundle.listD (x_A G) G.2.1 G.2.1.heap
/-- what holds all through a method's body -/
def x_B (G : XE) (M : XMI) (p : Program) (s : State) (m : MethodId) (args : Array Value) (meth : Method) (c : Code) : Prop :=
  p.tables.exec = Jvm.exec ∧ c.code = x_by M ∧ c.maxLocals = x_nL M ∧ meth.sig.returnType = x_ret M ∧ meth.locks = false ∧ s.vm.findClass (x_own M) = some m.cls ∧ (∀ w ∈ x_T, w.before args s = true) ∧ G.2.1.WarmedH s.vm ∧ x_kept G s.heap ∧ c.exceptionTable.toList = tableOf (x_hh M) ∧ meth.name = (x_y M).name ∧ x_Kn G ∧ x_okK (x_by M) (x_k M) = true
/-- room, the addresses and the names' bound at the start, the end -/
abbrev XZ : Type := Room × (Nat → Nat) × Nat × (List Frame → Array Value → State → State → Prop)
/-- from this frame and these cells, the method comes to its end -/
def x_W (G : XE) (M : XMI) (Z : XZ) (N : XH) (cells slots pc : Nat) (L : List (Option Value)) (st : List Value) : Prop :=
  ∀ (p : Program) (e : Env) (s : State) (m : MethodId) (args : Array Value) (below : List Frame) (meth : Method) (c : Code) (ad : Nat → Nat) (nb : Nat) (H : Heap) (locs : List Loc) (ls : Array Slot),
    x_B G M p s m args meth c → x_R G ad nb N H → Z.2.2.1 ≤ nb → x_ext Z.2.2.1 Z.2.1 ad → va_S (x_A G) s.heap H locs → x_L ad nb (x_nL M) L ls → (∀ v ∈ st, x_vok nb v) →
    W p G.1 e Z.1 s m args below meth c H locs cells slots (Z.2.2.2 below args s) (F0 m pc ls (st.map (x_tr ad)))
def x_Qc (G : XE) (ad0 : Nat → Nat) (nb0 : Nat) (Qn : XH → Option Value → Prop) : Array Value → State → Outcome → State → Prop := fun _ st o t =>
  (∃ (ad : Nat → Nat) (nb : Nat) (N : XH) (r : Option Value), o = .returned (r.map (x_tr ad)) ∧ nb0 ≤ nb ∧ x_ext nb0 ad0 ad ∧ x_R G ad nb N t.heap ∧ (∀ v, r = some v → x_vok nb v) ∧ Qn N r) ∧ va_F (x_A G) st t
def x_XC (G : XE) (ad0 : Nat → Nat) (nb0 : Nat) (Qx : XH → String → Prop) : String → State → State → Prop := fun E st t =>
  (∃ (ad : Nat → Nat) (nb : Nat) (N : XH), nb0 ≤ nb ∧ x_ext nb0 ad0 ad ∧ x_R G ad nb N t.heap ∧ Qx N E) ∧ va_F (x_A G) st t
def x_rm (d mc ms : Nat) : Room := { frames := d, cells := mc, slots := ms, locals := 100 * d }
def x_Z (G : XE) (d mc ms : Nat) (ad0 : Nat → Nat) (nb0 : Nat) (Qn : XH → Option Value → Prop) (Qx : XH → String → Prop) : XZ :=
  (x_rm d mc ms, ad0, nb0, fun below args s => vx_MQ below (x_Qc G ad0 nb0 Qn) (x_XC G ad0 nb0 Qx) args s mc ms (x_A G))
def x_ws (M : XMI) : List Cond := (match x_hh M with | [] => Cond.code (x_y M) (x_by M) (x_nL M) (x_ret M) | hh => Cond.codeWith (x_y M) (x_by M) (x_nL M) (x_ret M) hh) :: x_T
def x_Pc (G : XE) (ad : Nat → Nat) (nb : Nat) (args : List Value) (N : XH) : Array Value → State → Prop := fun a U =>
  a = (args.map (x_tr ad)).toArray ∧ (∀ v ∈ args, x_vok nb v) ∧ G.2.1.WarmedH U.vm ∧ x_kept G U.heap ∧ x_R G ad nb N U.heap
/-- the contract of a call with these arguments over these cells: at most d frames deep, mc cells of ms slots -/
def x_M (G : XE) (M : XMI) (d mc ms : Nat) (args : List Value) (N : XH) (Qn : XH → Option Value → Prop) (Qx : XH → String → Prop) : Prop :=
  ∀ (ad : Nat → Nat) (nb : Nat), vx_Met G.1 (x_y M) (x_ws M) (x_rm d mc ms) (x_Pc G ad nb args N) (x_Qc G ad nb Qn) (x_XC G ad nb Qx) mc ms (x_A G)
/-! laws of names and cells -/
theorem x_tr_ext {nb : Nat} {ad ad' : Nat → Nat} (h : x_ext nb ad ad') {v : Value} (hv : x_vok nb v) : x_tr ad' v = x_tr ad v := by
  cases v with
  | ref k => exact congrArg Value.ref (h k hv)
  | _ => rfl
theorem x_vok_mono {nb nb' : Nat} (h : nb ≤ nb') {v : Value} (hv : x_vok nb v) : x_vok nb' v := by
  cases v with
  | ref k => exact Nat.lt_of_lt_of_le hv h
  | _ => trivial
theorem x_cok_mono {nb nb' : Nat} (h : nb ≤ nb') {c : XC} (hc : x_cok nb c) : x_cok nb' c := by
  rcases c with ⟨ci, V⟩ | ⟨mu, ty, n, f⟩
  · exact fun r hr j hj => x_vok_mono h (hc r hr j hj)
  · exact fun j hj => x_vok_mono h (hc j hj)
theorem x_map_ext {nb : Nat} {ad ad' : Nat → Nat} (h : x_ext nb ad ad') {st : List Value} (hv : ∀ v ∈ st, x_vok nb v) : st.map (x_tr ad') = st.map (x_tr ad) :=
  List.map_congr_left fun v hm => x_tr_ext h (hv v hm)
theorem x_L_ext {nb nb' nL : Nat} {ad ad' : Nat → Nat} (h : x_ext nb ad ad') (hn : nb ≤ nb') {L : List (Option Value)} {ls : Array Slot} (hl : x_L ad nb nL L ls) : x_L ad' nb' nL L ls :=
  ⟨hl.1, hl.2.1, fun i v hi => ⟨by rw [x_tr_ext h (hl.2.2 i v hi).2]; exact (hl.2.2 i v hi).1, x_vok_mono hn (hl.2.2 i v hi).2⟩⟩
theorem arrV_ext (cA : ClassId) (n : Nat) {f g : Nat → Value} (h : ∀ j, j < n → f j = g j) : arrV cA n f = arrV cA n g := by
  unfold arrV
  congr 1
  apply Array.ext_getElem?
  intro i
  by_cases hi : i < n
  · simp [hi, h i hi]
  · simp [hi]
theorem x_cell_ext {G : XE} {nb a : Nat} {ad ad' : Nat → Nat} (h : x_ext nb ad ad') {c : XC} {H : Heap} (hc : x_cok nb c) (hl : x_cell G ad a c H) : x_cell G ad' a c H := by
  rcases c with ⟨ci, V⟩ | ⟨mu, ty, n, f⟩
  · obtain ⟨h1, r, h2, h3⟩ := hl
    exact ⟨h1, r, h2, h3.to fun k hk => (x_tr_ext h (hc r h2 k hk)).symm⟩
  · obtain ⟨h1, h2, h3⟩ := hl
    refine ⟨h1, h2, ?_⟩
    rw [h3]
    exact congrArg some (arrV_ext _ n fun j hj => (x_tr_ext h (hc j hj)).symm)
theorem x_cell_kept {G : XE} {a : Nat} {ad : Nat → Nat} {c : XC} {H H' : Heap} (hl : x_cell G ad a c H) (hq : H'[a]? = H[a]?) : x_cell G ad a c H' := by
  rcases c with ⟨ci, V⟩ | ⟨mu, ty, n, f⟩
  · obtain ⟨h1, r, h2, h3⟩ := hl
    exact ⟨h1, r, h2, h3.kept hq⟩
  · obtain ⟨h1, h2, h3⟩ := hl
    exact ⟨h1, h2, hq.trans h3⟩
theorem x_cell_lt {G : XE} {a : Nat} {ad : Nat → Nat} {c : XC} {H : Heap} (hl : x_cell G ad a c H) : a < H.size := by
  rcases c with ⟨ci, V⟩ | ⟨mu, ty, n, f⟩
  · obtain ⟨-, r, -, cell, h3, -⟩ := hl
    exact (Array.getElem?_eq_some_iff.mp h3).1
  · exact (Array.getElem?_eq_some_iff.mp hl.2.2).1
theorem x_R_obj {G : XE} {ad : Nat → Nat} {nb o ci : Nat} {N : XH} {H : Heap} {V : Nat → Value} {r : vw_C} (h : x_R G ad nb N H) (hN : N o = some (.inl (ci, V))) (hc : vwCl[ci]? = some r) : o ≠ 0 ∧ o < nb ∧ x_cok nb (.inl (ci, V)) ∧ x_cell G ad (ad o) (.inl (ci, V)) H := by
  by_cases e : o = 0
  · subst e
    obtain ⟨f, h1, -⟩ := h.2.2.2.2 _ hN
    cases h1
    cases hc
  · exact ⟨e, h.1 o _ e hN⟩
theorem x_R_arr {G : XE} {ad : Nat → Nat} {nb o : Nat} {N : XH} {H : Heap} {z : Bool × FieldType × Nat × (Nat → Value)} (h : x_R G ad nb N H) (hN : N o = some (.inr z)) : o ≠ 0 ∧ o < nb ∧ x_cok nb (.inr z) ∧ x_cell G ad (ad o) (.inr z) H := by
  by_cases e : o = 0
  · subst e
    obtain ⟨f, h1, -⟩ := h.2.2.2.2 _ hN
    cases h1
  · exact ⟨e, h.1 o _ e hN⟩
theorem x_set_ne {N : XH} {o k : Nat} {c : XC} (h : k ≠ o) : x_set N o c k = N k := by
  unfold x_set
  rw [if_neg h]
theorem x_set_eq {N : XH} {o : Nat} {c : XC} : x_set N o c o = some c := by
  unfold x_set
  rw [if_pos rfl]
theorem x_R_put {G : XE} {ad : Nat → Nat} {nb o : Nat} {N : XH} {H H' : Heap} {c c' : XC} (h : x_R G ad nb N H) (ho : o ≠ 0) (hN : N o = some c) (hc : x_cok nb c') (hl : x_cell G ad (ad o) c' H') (hq : ∀ q, q ≠ ad o → H'[q]? = H[q]?) : x_R G ad nb (x_set N o c') H' := by
  obtain ⟨h1, h2, h3, h4, h5⟩ := h
  have dom : ∀ k d, x_set N o c' k = some d → ∃ d', N k = some d' := fun k d hk => by
    by_cases e : k = o
    · exact ⟨c, by rw [e]; exact hN⟩
    · exact ⟨d, by rw [x_set_ne e] at hk; exact hk⟩
  refine ⟨fun k d k0 hk => ?_, fun i j ci cj i0 j0 hi hj he => ?_, h3, h4, fun d hd => h5 d (by rw [x_set_ne (Ne.symm ho)] at hd; exact hd)⟩
  · by_cases e : k = o
    · subst e
      rw [x_set_eq] at hk
      cases hk
      exact ⟨(h1 k c k0 hN).1, hc, hl⟩
    · rw [x_set_ne e] at hk
      obtain ⟨a1, a2, a3⟩ := h1 k d k0 hk
      exact ⟨a1, a2, x_cell_kept a3 (hq _ fun z => e (h2 k o d c k0 ho hk hN z))⟩
  · obtain ⟨di, hi'⟩ := dom i ci hi
    obtain ⟨dj, hj'⟩ := dom j cj hj
    exact h2 i j di dj i0 j0 hi' hj' he
/-- a new name for a new cell -/
def x_adn (ad : Nat → Nat) (nb a : Nat) : Nat → Nat := fun k => if k = nb then a else ad k
theorem x_adn_ext (ad : Nat → Nat) (nb a : Nat) : x_ext nb ad (x_adn ad nb a) := fun k hk => by
  unfold x_adn
  rw [if_neg (Nat.ne_of_lt hk)]
theorem x_R_new {G : XE} {ad : Nat → Nat} {nb a : Nat} {N : XH} {H H' : Heap} {c : XC} (h : x_R G ad nb N H) (h0 : N 0 = none) (ha : H.size = a) (hc : x_cok nb c) (hl : x_cell G ad a c H') (hq : ∀ q, q < a → H'[q]? = H[q]?) : x_R G (x_adn ad nb a) (nb + 1) (x_set N nb c) H' ∧ N nb = none := by
  obtain ⟨h1, h2, h3, h4, h5⟩ := h
  have hnb0 : nb ≠ 0 := by omega
  have hno : N nb = none := by
    cases e : N nb with
    | none => rfl
    | some d => exact absurd (h1 nb d hnb0 e).1 (Nat.lt_irrefl _)
  have at0 : x_adn ad nb a nb = a := by
    unfold x_adn
    rw [if_pos rfl]
  have at1 : ∀ k, k ≠ nb → x_adn ad nb a k = ad k := fun k hk => by
    unfold x_adn
    rw [if_neg hk]
  have lt : ∀ k d, k ≠ 0 → N k = some d → ad k < a := fun k d k0 hk => by
    rw [← ha]
    exact x_cell_lt (h1 k d k0 hk).2.2
  refine ⟨⟨fun k d k0 hk => ?_, fun i j ci cj i0 j0 hi hj he => ?_, fun k hk => ?_, Nat.le_succ_of_le h4, fun d hd => ?_⟩, hno⟩
  · by_cases e : k = nb
    · subst e
      rw [x_set_eq] at hk
      cases hk
      refine ⟨Nat.lt_succ_self _, x_cok_mono (Nat.le_succ _) hc, ?_⟩
      rw [at0]
      exact x_cell_ext (x_adn_ext ad k a) hc hl
    · rw [x_set_ne e] at hk
      obtain ⟨a1, a2, a3⟩ := h1 k d k0 hk
      refine ⟨Nat.lt_succ_of_lt a1, x_cok_mono (Nat.le_succ _) a2, ?_⟩
      rw [at1 k e]
      exact x_cell_ext (x_adn_ext ad nb a) a2 (x_cell_kept a3 (hq _ (lt k d k0 hk)))
  · by_cases ei : i = nb
    · by_cases ej : j = nb
      · rw [ei, ej]
      · exfalso
        rw [x_set_ne ej] at hj
        rw [ei, at0, at1 j ej] at he
        have := lt j cj j0 hj
        omega
    · rw [x_set_ne ei] at hi
      by_cases ej : j = nb
      · exfalso
        rw [ej, at0, at1 i ei] at he
        have := lt i ci i0 hi
        omega
      · rw [x_set_ne ej] at hj
        rw [at1 i ei, at1 j ej] at he
        exact h2 i j ci cj i0 j0 hi hj he
  · rw [at1 k (by omega)]
    exact h3 k hk
  · rw [x_set_ne (Ne.symm hnb0), h0] at hd
    cases hd
/-- fewer cells -/
theorem x_R_sub {G : XE} {ad : Nat → Nat} {nb : Nat} {N N' : XH} {H : Heap} (h : x_R G ad nb N H) (hs : ∀ k c, N' k = some c → N k = some c) : x_R G ad nb N' H :=
  ⟨fun k c k0 hk => h.1 k c k0 (hs k c hk), fun i j ci cj i0 j0 hi hj => h.2.1 i j ci cj i0 j0 (hs i ci hi) (hs j cj hj), h.2.2.1, h.2.2.2.1, fun c hc => h.2.2.2.2 c (hs 0 c hc)⟩
/-- the next name: at 0 -/
def x_gh (f : Nat) : XC := .inl (99, fun _ => .ref f)
def x_del (N : XH) : XH := fun k => if k = 0 then none else N k
theorem x_gh_inj {f g : Nat} (h : x_gh f = .inl (99, fun _ => .ref g)) : f = g := by
  have h1 : (fun _ : Nat => Value.ref f) = fun _ => Value.ref g := by
    unfold x_gh at h
    injection h with h
    injection h
  have := congrFun h1 0
  injection this
theorem x_R_raise {G : XE} {ad : Nat → Nat} {nb f : Nat} {N : XH} {H : Heap} (h : x_R G ad nb N H) (hg : N 0 = some (x_gh f)) : x_R G ad f (x_del N) H ∧ nb ≤ f := by
  obtain ⟨h1, h2, h3, h4, h5⟩ := h
  obtain ⟨g, e1, e2⟩ := h5 _ hg
  cases x_gh_inj e1
  have off : ∀ k c, k ≠ 0 → x_del N k = some c → N k = some c := fun k c k0 hk => by
    unfold x_del at hk
    rwa [if_neg k0] at hk
  refine ⟨⟨fun k c k0 hk => ?_, fun i j ci cj i0 j0 hi hj => h2 i j ci cj i0 j0 (off i ci i0 hi) (off j cj j0 hj), h3, by omega, fun c hc => ?_⟩, e2⟩
  · obtain ⟨a1, a2, a3⟩ := h1 k c k0 (off k c k0 hk)
    exact ⟨by omega, x_cok_mono e2 a2, a3⟩
  · unfold x_del at hc
    rw [if_pos rfl] at hc
    cases hc
theorem x_R_ghost {G : XE} {ad : Nat → Nat} {nb f : Nat} {N : XH} {H : Heap} (h : x_R G ad nb N H) (hf : nb ≤ f) : x_R G ad nb (x_set N 0 (x_gh f)) H := by
  obtain ⟨h1, h2, h3, h4, h5⟩ := h
  refine ⟨fun k c k0 hk => h1 k c k0 (by rwa [x_set_ne k0] at hk), fun i j ci cj i0 j0 hi hj => h2 i j ci cj i0 j0 (by rwa [x_set_ne i0] at hi) (by rwa [x_set_ne j0] at hj), h3, h4, fun c hc => ?_⟩
  rw [x_set_eq] at hc
  exact ⟨f, (Option.some.inj hc).symm, hf⟩
end
section
/-! ===== rows of the abstract machine: constants, locals, arithmetic, the stack, branches ===== -/
def x_loc : List (Option Value) → Nat → Option Value
  | [], _ => none
  | v :: _, 0 => v
  | _ :: t, n + 1 => x_loc t n
theorem x_loc_get : ∀ (L : List (Option Value)) (i : Nat) (v : Value), x_loc L i = some v ↔ L[i]? = some (some v)
  | [], i, v => by simp [x_loc]
  | a :: t, 0, v => by simp [x_loc]
  | a :: t, i + 1, v => by
    rw [List.getElem?_cons_succ]
    exact x_loc_get t i v
theorem x_loc_lt {L : List (Option Value)} {i : Nat} {v : Value} (h : x_loc L i = some v) : i < L.length := (List.getElem?_eq_some_iff.mp ((x_loc_get L i v).mp h)).1
def x_nl (a : Option Value) : Bool := match a with
  | some (.long _) | some (.double _) => false
  | _ => true
theorem x_nl_cat {a : Value} (h : x_nl (some a) = true) : a.category = 1 := by
  cases a <;> first | rfl | cases h
def x_put1 (v : Value) : Nat → List (Option Value) → Option (List (Option Value))
  | 0, _ :: t => some (some v :: t)
  | 1, a0 :: _ :: t => bif x_nl a0 then some (a0 :: some v :: t) else none
  | 2, a0 :: a1 :: _ :: t => bif x_nl a1 then some (a0 :: a1 :: some v :: t) else none
  | 3, a0 :: a1 :: a2 :: _ :: t => bif x_nl a2 then some (a0 :: a1 :: a2 :: some v :: t) else none
  | 4, a0 :: a1 :: a2 :: a3 :: _ :: t => bif x_nl a3 then some (a0 :: a1 :: a2 :: a3 :: some v :: t) else none
  | 5, a0 :: a1 :: a2 :: a3 :: a4 :: _ :: t => bif x_nl a4 then some (a0 :: a1 :: a2 :: a3 :: a4 :: some v :: t) else none
  | 6, a0 :: a1 :: a2 :: a3 :: a4 :: a5 :: _ :: t => bif x_nl a5 then some (a0 :: a1 :: a2 :: a3 :: a4 :: a5 :: some v :: t) else none
  | 7, a0 :: a1 :: a2 :: a3 :: a4 :: a5 :: a6 :: _ :: t => bif x_nl a6 then some (a0 :: a1 :: a2 :: a3 :: a4 :: a5 :: a6 :: some v :: t) else none
  | 8, a0 :: a1 :: a2 :: a3 :: a4 :: a5 :: a6 :: a7 :: _ :: t => bif x_nl a7 then some (a0 :: a1 :: a2 :: a3 :: a4 :: a5 :: a6 :: a7 :: some v :: t) else none
  | 9, a0 :: a1 :: a2 :: a3 :: a4 :: a5 :: a6 :: a7 :: a8 :: _ :: t => bif x_nl a8 then some (a0 :: a1 :: a2 :: a3 :: a4 :: a5 :: a6 :: a7 :: a8 :: some v :: t) else none
  | 10, a0 :: a1 :: a2 :: a3 :: a4 :: a5 :: a6 :: a7 :: a8 :: a9 :: _ :: t => bif x_nl a9 then some (a0 :: a1 :: a2 :: a3 :: a4 :: a5 :: a6 :: a7 :: a8 :: a9 :: some v :: t) else none
  | 11, a0 :: a1 :: a2 :: a3 :: a4 :: a5 :: a6 :: a7 :: a8 :: a9 :: a10 :: _ :: t => bif x_nl a10 then some (a0 :: a1 :: a2 :: a3 :: a4 :: a5 :: a6 :: a7 :: a8 :: a9 :: a10 :: some v :: t) else none
  | 12, a0 :: a1 :: a2 :: a3 :: a4 :: a5 :: a6 :: a7 :: a8 :: a9 :: a10 :: a11 :: _ :: t => bif x_nl a11 then some (a0 :: a1 :: a2 :: a3 :: a4 :: a5 :: a6 :: a7 :: a8 :: a9 :: a10 :: a11 :: some v :: t) else none
  | 13, a0 :: a1 :: a2 :: a3 :: a4 :: a5 :: a6 :: a7 :: a8 :: a9 :: a10 :: a11 :: a12 :: _ :: t => bif x_nl a12 then some (a0 :: a1 :: a2 :: a3 :: a4 :: a5 :: a6 :: a7 :: a8 :: a9 :: a10 :: a11 :: a12 :: some v :: t) else none
  | 14, a0 :: a1 :: a2 :: a3 :: a4 :: a5 :: a6 :: a7 :: a8 :: a9 :: a10 :: a11 :: a12 :: a13 :: _ :: t => bif x_nl a13 then some (a0 :: a1 :: a2 :: a3 :: a4 :: a5 :: a6 :: a7 :: a8 :: a9 :: a10 :: a11 :: a12 :: a13 :: some v :: t) else none
  | 15, a0 :: a1 :: a2 :: a3 :: a4 :: a5 :: a6 :: a7 :: a8 :: a9 :: a10 :: a11 :: a12 :: a13 :: a14 :: _ :: t => bif x_nl a14 then some (a0 :: a1 :: a2 :: a3 :: a4 :: a5 :: a6 :: a7 :: a8 :: a9 :: a10 :: a11 :: a12 :: a13 :: a14 :: some v :: t) else none
  | _, _ => none
def x_put2 (v : Value) : Nat → List (Option Value) → Option (List (Option Value))
  | 0, _ :: _ :: t => some (some v :: none :: t)
  | 1, a0 :: _ :: _ :: t => bif x_nl a0 then some (a0 :: some v :: none :: t) else none
  | 2, a0 :: a1 :: _ :: _ :: t => bif x_nl a1 then some (a0 :: a1 :: some v :: none :: t) else none
  | 3, a0 :: a1 :: a2 :: _ :: _ :: t => bif x_nl a2 then some (a0 :: a1 :: a2 :: some v :: none :: t) else none
  | 4, a0 :: a1 :: a2 :: a3 :: _ :: _ :: t => bif x_nl a3 then some (a0 :: a1 :: a2 :: a3 :: some v :: none :: t) else none
  | 5, a0 :: a1 :: a2 :: a3 :: a4 :: _ :: _ :: t => bif x_nl a4 then some (a0 :: a1 :: a2 :: a3 :: a4 :: some v :: none :: t) else none
  | 6, a0 :: a1 :: a2 :: a3 :: a4 :: a5 :: _ :: _ :: t => bif x_nl a5 then some (a0 :: a1 :: a2 :: a3 :: a4 :: a5 :: some v :: none :: t) else none
  | 7, a0 :: a1 :: a2 :: a3 :: a4 :: a5 :: a6 :: _ :: _ :: t => bif x_nl a6 then some (a0 :: a1 :: a2 :: a3 :: a4 :: a5 :: a6 :: some v :: none :: t) else none
  | 8, a0 :: a1 :: a2 :: a3 :: a4 :: a5 :: a6 :: a7 :: _ :: _ :: t => bif x_nl a7 then some (a0 :: a1 :: a2 :: a3 :: a4 :: a5 :: a6 :: a7 :: some v :: none :: t) else none
  | 9, a0 :: a1 :: a2 :: a3 :: a4 :: a5 :: a6 :: a7 :: a8 :: _ :: _ :: t => bif x_nl a8 then some (a0 :: a1 :: a2 :: a3 :: a4 :: a5 :: a6 :: a7 :: a8 :: some v :: none :: t) else none
  | 10, a0 :: a1 :: a2 :: a3 :: a4 :: a5 :: a6 :: a7 :: a8 :: a9 :: _ :: _ :: t => bif x_nl a9 then some (a0 :: a1 :: a2 :: a3 :: a4 :: a5 :: a6 :: a7 :: a8 :: a9 :: some v :: none :: t) else none
  | 11, a0 :: a1 :: a2 :: a3 :: a4 :: a5 :: a6 :: a7 :: a8 :: a9 :: a10 :: _ :: _ :: t => bif x_nl a10 then some (a0 :: a1 :: a2 :: a3 :: a4 :: a5 :: a6 :: a7 :: a8 :: a9 :: a10 :: some v :: none :: t) else none
  | 12, a0 :: a1 :: a2 :: a3 :: a4 :: a5 :: a6 :: a7 :: a8 :: a9 :: a10 :: a11 :: _ :: _ :: t => bif x_nl a11 then some (a0 :: a1 :: a2 :: a3 :: a4 :: a5 :: a6 :: a7 :: a8 :: a9 :: a10 :: a11 :: some v :: none :: t) else none
  | 13, a0 :: a1 :: a2 :: a3 :: a4 :: a5 :: a6 :: a7 :: a8 :: a9 :: a10 :: a11 :: a12 :: _ :: _ :: t => bif x_nl a12 then some (a0 :: a1 :: a2 :: a3 :: a4 :: a5 :: a6 :: a7 :: a8 :: a9 :: a10 :: a11 :: a12 :: some v :: none :: t) else none
  | 14, a0 :: a1 :: a2 :: a3 :: a4 :: a5 :: a6 :: a7 :: a8 :: a9 :: a10 :: a11 :: a12 :: a13 :: _ :: _ :: t => bif x_nl a13 then some (a0 :: a1 :: a2 :: a3 :: a4 :: a5 :: a6 :: a7 :: a8 :: a9 :: a10 :: a11 :: a12 :: a13 :: some v :: none :: t) else none
  | 15, a0 :: a1 :: a2 :: a3 :: a4 :: a5 :: a6 :: a7 :: a8 :: a9 :: a10 :: a11 :: a12 :: a13 :: a14 :: _ :: _ :: t => bif x_nl a14 then some (a0 :: a1 :: a2 :: a3 :: a4 :: a5 :: a6 :: a7 :: a8 :: a9 :: a10 :: a11 :: a12 :: a13 :: a14 :: some v :: none :: t) else none
  | _, _ => none
theorem x_bif {α : Type} {b : Bool} {x y : α} (h : (bif b then some x else none) = some y) : b = true ∧ x = y := by
  cases b with
  | true => exact ⟨rfl, Option.some.inj h⟩
  | false => cases h
theorem x_put1_eq {v : Value} {k : Nat} {L L' : List (Option Value)} (h : x_put1 v k L = some L') : L' = L.set k (some v) ∧ k < L.length ∧ (k = 0 ∨ ∃ j a, k = j + 1 ∧ L[j]? = some a ∧ x_nl a = true) := by
  unfold x_put1 at h
  split at h
  · cases h
    exact ⟨rfl, by simp, Or.inl rfl⟩
  · obtain ⟨h1, h2⟩ := x_bif h
    subst h2
    exact ⟨rfl, by simp, Or.inr ⟨0, _, rfl, rfl, h1⟩⟩
  · obtain ⟨h1, h2⟩ := x_bif h
    subst h2
    exact ⟨rfl, by simp, Or.inr ⟨1, _, rfl, rfl, h1⟩⟩
  · obtain ⟨h1, h2⟩ := x_bif h
    subst h2
    exact ⟨rfl, by simp, Or.inr ⟨2, _, rfl, rfl, h1⟩⟩
  · obtain ⟨h1, h2⟩ := x_bif h
    subst h2
    exact ⟨rfl, by simp, Or.inr ⟨3, _, rfl, rfl, h1⟩⟩
  · obtain ⟨h1, h2⟩ := x_bif h
    subst h2
    exact ⟨rfl, by simp, Or.inr ⟨4, _, rfl, rfl, h1⟩⟩
  · obtain ⟨h1, h2⟩ := x_bif h
    subst h2
    exact ⟨rfl, by simp, Or.inr ⟨5, _, rfl, rfl, h1⟩⟩
  · obtain ⟨h1, h2⟩ := x_bif h
    subst h2
    exact ⟨rfl, by simp, Or.inr ⟨6, _, rfl, rfl, h1⟩⟩
  · obtain ⟨h1, h2⟩ := x_bif h
    subst h2
    exact ⟨rfl, by simp, Or.inr ⟨7, _, rfl, rfl, h1⟩⟩
  · obtain ⟨h1, h2⟩ := x_bif h
    subst h2
    exact ⟨rfl, by simp, Or.inr ⟨8, _, rfl, rfl, h1⟩⟩
  · obtain ⟨h1, h2⟩ := x_bif h
    subst h2
    exact ⟨rfl, by simp, Or.inr ⟨9, _, rfl, rfl, h1⟩⟩
  · obtain ⟨h1, h2⟩ := x_bif h
    subst h2
    exact ⟨rfl, by simp, Or.inr ⟨10, _, rfl, rfl, h1⟩⟩
  · obtain ⟨h1, h2⟩ := x_bif h
    subst h2
    exact ⟨rfl, by simp, Or.inr ⟨11, _, rfl, rfl, h1⟩⟩
  · obtain ⟨h1, h2⟩ := x_bif h
    subst h2
    exact ⟨rfl, by simp, Or.inr ⟨12, _, rfl, rfl, h1⟩⟩
  · obtain ⟨h1, h2⟩ := x_bif h
    subst h2
    exact ⟨rfl, by simp, Or.inr ⟨13, _, rfl, rfl, h1⟩⟩
  · obtain ⟨h1, h2⟩ := x_bif h
    subst h2
    exact ⟨rfl, by simp, Or.inr ⟨14, _, rfl, rfl, h1⟩⟩
  · cases h
theorem x_put2_eq {v : Value} {k : Nat} {L L' : List (Option Value)} (h : x_put2 v k L = some L') : L' = (L.set k (some v)).set (k + 1) none ∧ k + 1 < L.length ∧ (k = 0 ∨ ∃ j a, k = j + 1 ∧ L[j]? = some a ∧ x_nl a = true) := by
  unfold x_put2 at h
  split at h
  · cases h
    exact ⟨rfl, by simp, Or.inl rfl⟩
  · obtain ⟨h1, h2⟩ := x_bif h
    subst h2
    exact ⟨rfl, by simp, Or.inr ⟨0, _, rfl, rfl, h1⟩⟩
  · obtain ⟨h1, h2⟩ := x_bif h
    subst h2
    exact ⟨rfl, by simp, Or.inr ⟨1, _, rfl, rfl, h1⟩⟩
  · obtain ⟨h1, h2⟩ := x_bif h
    subst h2
    exact ⟨rfl, by simp, Or.inr ⟨2, _, rfl, rfl, h1⟩⟩
  · obtain ⟨h1, h2⟩ := x_bif h
    subst h2
    exact ⟨rfl, by simp, Or.inr ⟨3, _, rfl, rfl, h1⟩⟩
  · obtain ⟨h1, h2⟩ := x_bif h
    subst h2
    exact ⟨rfl, by simp, Or.inr ⟨4, _, rfl, rfl, h1⟩⟩
  · obtain ⟨h1, h2⟩ := x_bif h
    subst h2
    exact ⟨rfl, by simp, Or.inr ⟨5, _, rfl, rfl, h1⟩⟩
  · obtain ⟨h1, h2⟩ := x_bif h
    subst h2
    exact ⟨rfl, by simp, Or.inr ⟨6, _, rfl, rfl, h1⟩⟩
  · obtain ⟨h1, h2⟩ := x_bif h
    subst h2
    exact ⟨rfl, by simp, Or.inr ⟨7, _, rfl, rfl, h1⟩⟩
  · obtain ⟨h1, h2⟩ := x_bif h
    subst h2
    exact ⟨rfl, by simp, Or.inr ⟨8, _, rfl, rfl, h1⟩⟩
  · obtain ⟨h1, h2⟩ := x_bif h
    subst h2
    exact ⟨rfl, by simp, Or.inr ⟨9, _, rfl, rfl, h1⟩⟩
  · obtain ⟨h1, h2⟩ := x_bif h
    subst h2
    exact ⟨rfl, by simp, Or.inr ⟨10, _, rfl, rfl, h1⟩⟩
  · obtain ⟨h1, h2⟩ := x_bif h
    subst h2
    exact ⟨rfl, by simp, Or.inr ⟨11, _, rfl, rfl, h1⟩⟩
  · obtain ⟨h1, h2⟩ := x_bif h
    subst h2
    exact ⟨rfl, by simp, Or.inr ⟨12, _, rfl, rfl, h1⟩⟩
  · obtain ⟨h1, h2⟩ := x_bif h
    subst h2
    exact ⟨rfl, by simp, Or.inr ⟨13, _, rfl, rfl, h1⟩⟩
  · obtain ⟨h1, h2⟩ := x_bif h
    subst h2
    exact ⟨rfl, by simp, Or.inr ⟨14, _, rfl, rfl, h1⟩⟩
  · cases h
def x_al (ad : Nat → Nat) (L : List (Option Value)) : List (Nat × Value) := (List.range L.length).filterMap fun i => (x_loc L i).map fun v => (i, x_tr ad v)
theorem x_al_mem {ad : Nat → Nat} {L : List (Option Value)} {q : Nat × Value} : q ∈ x_al ad L ↔ ∃ v, x_loc L q.1 = some v ∧ q.2 = x_tr ad v := by
  unfold x_al
  rw [List.mem_filterMap]
  constructor
  · rintro ⟨i, -, hi⟩
    cases hv : x_loc L i with
    | none => rw [hv] at hi; cases hi
    | some v =>
      rw [hv] at hi
      have := Option.some.inj hi
      subst this
      exact ⟨v, hv, rfl⟩
  · rintro ⟨v, hv, he⟩
    refine ⟨q.1, List.mem_range.mpr (x_loc_lt hv), ?_⟩
    rw [hv, Option.map_some, ← he]
theorem x_L_has {ad : Nat → Nat} {nb nL : Nat} {L : List (Option Value)} {ls : Array Slot} (h : x_L ad nb nL L ls) : lv_has ls nL (x_al ad L) :=
  ⟨h.1.1, h.2.1, fun q hq => by
    obtain ⟨v, h1, h2⟩ := x_al_mem.mp hq
    rw [h2]
    exact (h.2.2 q.1 v ((x_loc_get _ _ _).mp h1)).1⟩
theorem x_tr_cat (ad : Nat → Nat) (v : Value) : (x_tr ad v).category = v.category := by cases v <;> rfl
theorem x_L_put1 {ad : Nat → Nat} {nb nL k : Nat} {v : Value} {L L' : List (Option Value)} {ls ls' : Array Slot} (hl : x_L ad nb nL L ls) (hv : x_vok nb v) (h : x_put1 v k L = some L')
    (h' : lv_has ls' nL ((k, x_tr ad v) :: (x_al ad L).filter (fun q => !(q.1 == k) && !(q.1 + 1 == k && q.2.category == 2)))) : x_L ad nb nL L' ls' := by
  obtain ⟨h1, h2, h3⟩ := x_put1_eq h
  subst h1
  refine ⟨⟨h'.1, by simpa using hl.1.2⟩, h'.2.1, fun i w hi => ?_⟩
  by_cases e : i = k
  · subst e
    rw [List.getElem?_set_self h2] at hi
    cases hi
    exact ⟨h'.2.2 (i, x_tr ad v) List.mem_cons_self, hv⟩
  · rw [List.getElem?_set_ne (Ne.symm e)] at hi
    refine ⟨h'.2.2 (i, x_tr ad w) (List.mem_cons_of_mem _ (List.mem_filter.mpr ⟨x_al_mem.mpr ⟨w, (x_loc_get _ _ _).mpr hi, rfl⟩, ?_⟩)), (hl.2.2 i w hi).2⟩
    have e1 : (i == k) = false := by simpa using e
    rcases h3 with h3 | ⟨j, a, h3, h4, h5⟩
    · have e2 : (i + 1 == k) = false := by simp; omega
      simp [e1, e2]
    · by_cases ej : i = j
      · subst ej
        rw [hi] at h4
        cases h4
        have := x_nl_cat h5
        simp [e1, x_tr_cat, this]
      · have e2 : (i + 1 == k) = false := by simp; omega
        simp [e1, e2]
theorem x_L_put2 {ad : Nat → Nat} {nb nL k : Nat} {v : Value} {L L' : List (Option Value)} {ls ls' : Array Slot} (hl : x_L ad nb nL L ls) (hv : x_vok nb v) (h : x_put2 v k L = some L')
    (h' : lv_has ls' nL ((k, x_tr ad v) :: (x_al ad L).filter (fun q => !(q.1 == k) && (!(q.1 == k + 1) && !(q.1 + 1 == k && q.2.category == 2))))) : x_L ad nb nL L' ls' := by
  obtain ⟨h1, h2, h3⟩ := x_put2_eq h
  subst h1
  refine ⟨⟨h'.1, by simpa using hl.1.2⟩, h'.2.1, fun i w hi => ?_⟩
  by_cases e1 : i = k + 1
  · subst e1
    rw [List.getElem?_set_self (by simpa using h2)] at hi
    cases hi
  · rw [List.getElem?_set_ne (Ne.symm e1)] at hi
    by_cases e : i = k
    · subst e
      rw [List.getElem?_set_self (by omega)] at hi
      cases hi
      exact ⟨h'.2.2 (i, x_tr ad v) List.mem_cons_self, hv⟩
    · rw [List.getElem?_set_ne (Ne.symm e)] at hi
      refine ⟨h'.2.2 (i, x_tr ad w) (List.mem_cons_of_mem _ (List.mem_filter.mpr ⟨x_al_mem.mpr ⟨w, (x_loc_get _ _ _).mpr hi, rfl⟩, ?_⟩)), (hl.2.2 i w hi).2⟩
      have e3 : (i == k) = false := by simpa using e
      have e4 : (i == k + 1) = false := by simpa using e1
      rcases h3 with h3 | ⟨j, a, h3, h4, h5⟩
      · have e2 : (i + 1 == k) = false := by simp; omega
        simp [e3, e2, e4]
      · by_cases ej : i = j
        · subst ej
          rw [hi] at h4
          cases h4
          have := x_nl_cat h5
          simp [e3, e4, x_tr_cat, this]
        · have e2 : (i + 1 == k) = false := by simp; omega
          simp [e3, e2, e4]
def x_push : Instr → Option Value
  | .iconst n => some (.int (Int32.ofInt n))
  | .bipush n => some (.int (Int8.ofInt n).toInt32)
  | .sipush n => some (.int (Int16.ofInt n).toInt32)
  | .lconst n => some (.long (Int64.ofNat (n : Nat)))
  | .aconst_null => some .null
  | _ => none
def x_ldi : Instr → Option Nat
  | .iload_n k | .lload_n k | .aload_n k => some (k : Nat)
  | .iload k | .lload k | .aload k => some k
  | _ => none
def x_ldok : Instr → Value → Bool
  | .iload_n _, .int _ | .iload _, .int _ | .lload_n _, .long _ | .lload _, .long _ | .aload_n _, .ref _ | .aload _, .ref _ | .aload_n _, .null | .aload _, .null => true
  | _, _ => false
def x_sti : Instr → Value → Option Nat
  | .istore_n k, .int _ => some (k : Nat)
  | .istore k, .int _ => some k
  | .astore_n k, .ref _ => some (k : Nat)
  | .astore k, .ref _ => some k
  | .astore_n k, .null => some (k : Nat)
  | .astore k, .null => some k
  | _, _ => none
def x_stl : Instr → Option Nat
  | .lstore_n k => some (k : Nat)
  | .lstore k => some k
  | _ => none
/-- the upper operand is the second argument -/
def x_bin : Instr → Value → Value → Option Value
  | .iadd, .int x, .int y => some (.int (x + y))
  | .isub, .int x, .int y => some (.int (x - y))
  | .imul, .int x, .int y => some (.int (x * y))
  | .iand, .int x, .int y => some (.int (x &&& y))
  | .ior, .int x, .int y => some (.int (x ||| y))
  | .ixor, .int x, .int y => some (.int (x ^^^ y))
  | .ishl, .int x, .int y => some (.int (x <<< (y &&& 31)))
  | .ishr, .int x, .int y => some (.int (x >>> (y &&& 31)))
  | .ladd, .long x, .long y => some (.long (x + y))
  | .lsub, .long x, .long y => some (.long (x - y))
  | .lmul, .long x, .long y => some (.long (x * y))
  | .land, .long x, .long y => some (.long (x &&& y))
  | .lor, .long x, .long y => some (.long (x ||| y))
  | .lxor, .long x, .long y => some (.long (x ^^^ y))
  | .lushr, .long x, .int y => some (.long (x.toUInt64 >>> (y.toInt64.toUInt64 &&& Int64.toUInt64 63)).toInt64)
  | .lshl, .long x, .int y => some (.long (x <<< (y.toInt64 &&& 63)))
  | .lcmp, .long x, .long y => some (.int (lg_cmp x y))
  | _, _, _ => none
def x_un : Instr → Value → Option Value
  | .i2l, .int x => some (.long x.toInt64)
  | .l2i, .long x => some (.int x.toInt32)
  | .i2b, .int x => some (.int x.toInt8.toInt32)
  | .i2c, .int x => some (.int (x.toUInt32 % 65536).toInt32)
  | _, _ => none
end
section
/-! ===== the rows: pure instructions ===== -/
section XR1
variable {G : XE} {M : XMI} {Z : XZ} {N : XH} {cells slots pc pc' t : Nat} {L L' : List (Option Value)} {st : List Value} {i : Instr}
theorem X_push {v : Value} (hd : x_at (x_k M) pc = some (i, pc', t)) (hv : x_push i = some v) (kk : x_W G M Z N cells slots pc' L (v :: st)) : x_W G M Z N cells slots pc L st := by
  intro p e s m args below meth c ad nb H locs ls B hR hn he hS hl hvs
  have hx := B.1
  have hb := B.2.1
  have hok := B.2.2.2.2.2.2.2.2.2.2.2.2
  unfold x_push at hv
  split at hv
  · cases hv
    obtain ⟨d1, e1⟩ := x_decn hok hd (n := 0) rfl
    subst e1
    exact lv_iconst hx hb d1 rfl (kk p e s m args below meth c ad nb H locs ls B hR hn he hS hl (List.forall_mem_cons.mpr ⟨trivial, hvs⟩))
  · cases hv
    obtain ⟨d1, e1⟩ := x_decn hok hd (n := 1) rfl
    subst e1
    exact lv_bipush hx hb d1 rfl (kk p e s m args below meth c ad nb H locs ls B hR hn he hS hl (List.forall_mem_cons.mpr ⟨trivial, hvs⟩))
  · cases hv
    obtain ⟨d1, e1⟩ := x_decn hok hd (n := 2) rfl
    subst e1
    exact lv_sipush hx hb d1 rfl (kk p e s m args below meth c ad nb H locs ls B hR hn he hS hl (List.forall_mem_cons.mpr ⟨trivial, hvs⟩))
  · cases hv
    obtain ⟨d1, e1⟩ := x_decn hok hd (n := 0) rfl
    subst e1
    exact lv_lconst hx hb d1 rfl (kk p e s m args below meth c ad nb H locs ls B hR hn he hS hl (List.forall_mem_cons.mpr ⟨trivial, hvs⟩))
  · cases hv
    obtain ⟨d1, e1⟩ := x_decn hok hd (n := 0) rfl
    subst e1
    exact lv_null hx hb d1 (kk p e s m args below meth c ad nb H locs ls B hR hn he hS hl (List.forall_mem_cons.mpr ⟨trivial, hvs⟩))
  · cases hv
theorem X_ld {k : Nat} {v : Value} (hd : x_at (x_k M) pc = some (i, pc', t)) (hi : x_ldi i = some k) (hL : x_loc L k = some v) (ht : x_ldok i v = true) (kk : x_W G M Z N cells slots pc' L (v :: st)) : x_W G M Z N cells slots pc L st := by
  intro p e s m args below meth c ad nb H locs ls B hR hn he hS hl hvs
  have hx := B.1
  have hb := B.2.1
  have hok := B.2.2.2.2.2.2.2.2.2.2.2.2
  obtain ⟨g1, g2⟩ := hl.2.2 k v ((x_loc_get _ _ _).mp hL)
  have K := kk p e s m args below meth c ad nb H locs ls B hR hn he hS hl (List.forall_mem_cons.mpr ⟨g2, hvs⟩)
  unfold x_ldok at ht
  split at ht
  · cases hi
    obtain ⟨d1, e1⟩ := x_decn hok hd (n := 0) rfl
    subst e1
    exact lv_iload_n hx hb d1 rfl g1 K
  · cases hi
    obtain ⟨d1, e1⟩ := x_decn hok hd (n := 1) rfl
    subst e1
    exact lv_iload hx hb d1 g1 K
  · cases hi
    obtain ⟨d1, e1⟩ := x_decn hok hd (n := 0) rfl
    subst e1
    exact lv_lload_n hx hb d1 rfl g1 K
  · cases hi
    obtain ⟨d1, e1⟩ := x_decn hok hd (n := 1) rfl
    subst e1
    exact lv_lload hx hb d1 g1 K
  · cases hi
    obtain ⟨d1, e1⟩ := x_decn hok hd (n := 0) rfl
    subst e1
    exact lv_aload_n hx hb d1 rfl g1 K
  · cases hi
    obtain ⟨d1, e1⟩ := x_decn hok hd (n := 1) rfl
    subst e1
    exact lv_aload hx hb d1 g1 K
  · cases hi
    obtain ⟨d1, e1⟩ := x_decn hok hd (n := 0) rfl
    subst e1
    exact lv_aload_nN hx hb d1 rfl g1 K
  · cases hi
    obtain ⟨d1, e1⟩ := x_decn hok hd (n := 1) rfl
    subst e1
    exact lv_aloadN hx hb d1 g1 K
  · cases ht
theorem X_st {k : Nat} {v : Value} (hd : x_at (x_k M) pc = some (i, pc', t)) (hi : x_sti i v = some k) (hL : x_put1 v k L = some L') (kk : x_W G M Z N cells slots pc' L' st) : x_W G M Z N cells slots pc L (v :: st) := by
  intro p e s m args below meth c ad nb H locs ls B hR hn he hS hl hvs
  have hx := B.1
  have hb := B.2.1
  have hok := B.2.2.2.2.2.2.2.2.2.2.2.2
  obtain ⟨v1, v2⟩ := List.forall_mem_cons.mp hvs
  have hh := x_L_has hl
  have hlt : k < x_nL M := Nat.lt_of_lt_of_le (x_put1_eq hL).2.1 hl.1.2
  have K := fun ls' h' => kk p e s m args below meth c ad nb H locs ls' B hR hn he hS (x_L_put1 hl v1 hL h') v2
  unfold x_sti at hi
  split at hi
  · cases hi
    obtain ⟨d1, e1⟩ := x_decn hok hd (n := 0) rfl
    subst e1
    exact lv_istore_n hx hb d1 rfl hh hlt rfl K
  · cases hi
    obtain ⟨d1, e1⟩ := x_decn hok hd (n := 1) rfl
    subst e1
    exact lv_istore hx hb d1 hh hlt rfl K
  · cases hi
    obtain ⟨d1, e1⟩ := x_decn hok hd (n := 0) rfl
    subst e1
    exact lv_astore_n hx hb d1 rfl hh hlt rfl K
  · cases hi
    obtain ⟨d1, e1⟩ := x_decn hok hd (n := 1) rfl
    subst e1
    exact lv_astore hx hb d1 hh hlt rfl K
  · cases hi
    obtain ⟨d1, e1⟩ := x_decn hok hd (n := 0) rfl
    subst e1
    exact lv_astore_nN hx hb d1 rfl hh hlt rfl K
  · cases hi
    obtain ⟨d1, e1⟩ := x_decn hok hd (n := 1) rfl
    subst e1
    exact lv_astoreN hx hb d1 hh hlt rfl K
  · cases hi
theorem X_stl {k : Nat} {x : Int64} (hd : x_at (x_k M) pc = some (i, pc', t)) (hi : x_stl i = some k) (hL : x_put2 (.long x) k L = some L') (kk : x_W G M Z N cells slots pc' L' st) : x_W G M Z N cells slots pc L (.long x :: st) := by
  intro p e s m args below meth c ad nb H locs ls B hR hn he hS hl hvs
  have hx := B.1
  have hb := B.2.1
  have hok := B.2.2.2.2.2.2.2.2.2.2.2.2
  obtain ⟨v1, v2⟩ := List.forall_mem_cons.mp hvs
  have hh := x_L_has hl
  have hlt : k + 1 < x_nL M := Nat.lt_of_lt_of_le (x_put2_eq hL).2.1 hl.1.2
  have K := fun ls' h' => kk p e s m args below meth c ad nb H locs ls' B hR hn he hS (x_L_put2 hl v1 hL h') v2
  unfold x_stl at hi
  split at hi
  · cases hi
    obtain ⟨d1, e1⟩ := x_decn hok hd (n := 0) rfl
    subst e1
    exact lv_lstore_n hx hb d1 rfl hh hlt rfl K
  · cases hi
    obtain ⟨d1, e1⟩ := x_decn hok hd (n := 1) rfl
    subst e1
    exact lv_lstore hx hb d1 hh hlt rfl K
  · cases hi
theorem X_bin {x y v : Value} (hd : x_at (x_k M) pc = some (i, pc', t)) (hv : x_bin i x y = some v) (kk : x_W G M Z N cells slots pc' L (v :: st)) : x_W G M Z N cells slots pc L (y :: x :: st) := by
  intro p e s m args below meth c ad nb H locs ls B hR hn he hS hl hvs
  have hx := B.1
  have hb := B.2.1
  have hok := B.2.2.2.2.2.2.2.2.2.2.2.2
  have hvs2 := (List.forall_mem_cons.mp (List.forall_mem_cons.mp hvs).2).2
  unfold x_bin at hv
  split at hv
  · cases hv
    obtain ⟨d1, e1⟩ := x_decn hok hd (n := 0) rfl
    subst e1
    exact lv_iadd hx hb d1 (kk p e s m args below meth c ad nb H locs ls B hR hn he hS hl (List.forall_mem_cons.mpr ⟨trivial, hvs2⟩))
  · cases hv
    obtain ⟨d1, e1⟩ := x_decn hok hd (n := 0) rfl
    subst e1
    exact lv_isub hx hb d1 (kk p e s m args below meth c ad nb H locs ls B hR hn he hS hl (List.forall_mem_cons.mpr ⟨trivial, hvs2⟩))
  · cases hv
    obtain ⟨d1, e1⟩ := x_decn hok hd (n := 0) rfl
    subst e1
    exact lv_imul hx hb d1 (kk p e s m args below meth c ad nb H locs ls B hR hn he hS hl (List.forall_mem_cons.mpr ⟨trivial, hvs2⟩))
  · cases hv
    obtain ⟨d1, e1⟩ := x_decn hok hd (n := 0) rfl
    subst e1
    exact lv_iand hx hb d1 (kk p e s m args below meth c ad nb H locs ls B hR hn he hS hl (List.forall_mem_cons.mpr ⟨trivial, hvs2⟩))
  · cases hv
    obtain ⟨d1, e1⟩ := x_decn hok hd (n := 0) rfl
    subst e1
    exact lv_ior hx hb d1 (kk p e s m args below meth c ad nb H locs ls B hR hn he hS hl (List.forall_mem_cons.mpr ⟨trivial, hvs2⟩))
  · cases hv
    obtain ⟨d1, e1⟩ := x_decn hok hd (n := 0) rfl
    subst e1
    exact lv_ixor hx hb d1 (kk p e s m args below meth c ad nb H locs ls B hR hn he hS hl (List.forall_mem_cons.mpr ⟨trivial, hvs2⟩))
  · cases hv
    obtain ⟨d1, e1⟩ := x_decn hok hd (n := 0) rfl
    subst e1
    exact lv_ishl hx hb d1 (kk p e s m args below meth c ad nb H locs ls B hR hn he hS hl (List.forall_mem_cons.mpr ⟨trivial, hvs2⟩))
  · cases hv
    obtain ⟨d1, e1⟩ := x_decn hok hd (n := 0) rfl
    subst e1
    exact lv_ishr hx hb d1 (kk p e s m args below meth c ad nb H locs ls B hR hn he hS hl (List.forall_mem_cons.mpr ⟨trivial, hvs2⟩))
  · cases hv
    obtain ⟨d1, e1⟩ := x_decn hok hd (n := 0) rfl
    subst e1
    exact lv_ladd hx hb d1 (kk p e s m args below meth c ad nb H locs ls B hR hn he hS hl (List.forall_mem_cons.mpr ⟨trivial, hvs2⟩))
  · cases hv
    obtain ⟨d1, e1⟩ := x_decn hok hd (n := 0) rfl
    subst e1
    exact lv_lsub hx hb d1 (kk p e s m args below meth c ad nb H locs ls B hR hn he hS hl (List.forall_mem_cons.mpr ⟨trivial, hvs2⟩))
  · cases hv
    obtain ⟨d1, e1⟩ := x_decn hok hd (n := 0) rfl
    subst e1
    exact lv_lmul hx hb d1 (kk p e s m args below meth c ad nb H locs ls B hR hn he hS hl (List.forall_mem_cons.mpr ⟨trivial, hvs2⟩))
  · cases hv
    obtain ⟨d1, e1⟩ := x_decn hok hd (n := 0) rfl
    subst e1
    exact lv_land hx hb d1 (kk p e s m args below meth c ad nb H locs ls B hR hn he hS hl (List.forall_mem_cons.mpr ⟨trivial, hvs2⟩))
  · cases hv
    obtain ⟨d1, e1⟩ := x_decn hok hd (n := 0) rfl
    subst e1
    exact lv_lor hx hb d1 (kk p e s m args below meth c ad nb H locs ls B hR hn he hS hl (List.forall_mem_cons.mpr ⟨trivial, hvs2⟩))
  · cases hv
    obtain ⟨d1, e1⟩ := x_decn hok hd (n := 0) rfl
    subst e1
    exact lv_lxor hx hb d1 (kk p e s m args below meth c ad nb H locs ls B hR hn he hS hl (List.forall_mem_cons.mpr ⟨trivial, hvs2⟩))
  · cases hv
    obtain ⟨d1, e1⟩ := x_decn hok hd (n := 0) rfl
    subst e1
    exact lv_lushr hx hb d1 rfl (kk p e s m args below meth c ad nb H locs ls B hR hn he hS hl (List.forall_mem_cons.mpr ⟨trivial, hvs2⟩))
  · cases hv
    obtain ⟨d1, e1⟩ := x_decn hok hd (n := 0) rfl
    subst e1
    exact lv_lshl hx hb d1 rfl (kk p e s m args below meth c ad nb H locs ls B hR hn he hS hl (List.forall_mem_cons.mpr ⟨trivial, hvs2⟩))
  · cases hv
    obtain ⟨d1, e1⟩ := x_decn hok hd (n := 0) rfl
    subst e1
    exact W.lcmp hx hb d1 (kk p e s m args below meth c ad nb H locs ls B hR hn he hS hl (List.forall_mem_cons.mpr ⟨trivial, hvs2⟩))
  · cases hv
theorem X_un {x v : Value} (hd : x_at (x_k M) pc = some (i, pc', t)) (hv : x_un i x = some v) (kk : x_W G M Z N cells slots pc' L (v :: st)) : x_W G M Z N cells slots pc L (x :: st) := by
  intro p e s m args below meth c ad nb H locs ls B hR hn he hS hl hvs
  have hx := B.1
  have hb := B.2.1
  have hok := B.2.2.2.2.2.2.2.2.2.2.2.2
  have hvs2 := (List.forall_mem_cons.mp hvs).2
  unfold x_un at hv
  split at hv
  · cases hv
    obtain ⟨d1, e1⟩ := x_decn hok hd (n := 0) rfl
    subst e1
    exact lv_i2l hx hb d1 rfl (kk p e s m args below meth c ad nb H locs ls B hR hn he hS hl (List.forall_mem_cons.mpr ⟨trivial, hvs2⟩))
  · cases hv
    obtain ⟨d1, e1⟩ := x_decn hok hd (n := 0) rfl
    subst e1
    exact lv_l2i hx hb d1 rfl (kk p e s m args below meth c ad nb H locs ls B hR hn he hS hl (List.forall_mem_cons.mpr ⟨trivial, hvs2⟩))
  · cases hv
    obtain ⟨d1, e1⟩ := x_decn hok hd (n := 0) rfl
    subst e1
    exact lv_i2b hx hb d1 rfl (kk p e s m args below meth c ad nb H locs ls B hR hn he hS hl (List.forall_mem_cons.mpr ⟨trivial, hvs2⟩))
  · cases hv
    obtain ⟨d1, e1⟩ := x_decn hok hd (n := 0) rfl
    subst e1
    exact lv_i2c hx hb d1 rfl (kk p e s m args below meth c ad nb H locs ls B hR hn he hS hl (List.forall_mem_cons.mpr ⟨trivial, hvs2⟩))
  · cases hv
theorem X_idiv {x y : Int32} (hd : x_at (x_k M) pc = some (.idiv, pc', t)) (hy : ¬ y = 0) (kk : x_W G M Z N cells slots pc' L (.int (x / y) :: st)) : x_W G M Z N cells slots pc L (.int y :: .int x :: st) := by
  intro p e s m args below meth c ad nb H locs ls B hR hn he hS hl hvs
  obtain ⟨d1, e1⟩ := x_decn B.2.2.2.2.2.2.2.2.2.2.2.2 hd (n := 0) rfl
  subst e1
  have hvs2 := (List.forall_mem_cons.mp (List.forall_mem_cons.mp hvs).2).2
  exact lv_idiv B.1 B.2.1 d1 hy (kk p e s m args below meth c ad nb H locs ls B hR hn he hS hl (List.forall_mem_cons.mpr ⟨trivial, hvs2⟩))
theorem X_irem {x y : Int32} (hd : x_at (x_k M) pc = some (.irem, pc', t)) (hy : ¬ y = 0) (kk : x_W G M Z N cells slots pc' L (.int (x - x / y * y) :: st)) : x_W G M Z N cells slots pc L (.int y :: .int x :: st) := by
  intro p e s m args below meth c ad nb H locs ls B hR hn he hS hl hvs
  obtain ⟨d1, e1⟩ := x_decn B.2.2.2.2.2.2.2.2.2.2.2.2 hd (n := 0) rfl
  subst e1
  have hvs2 := (List.forall_mem_cons.mp (List.forall_mem_cons.mp hvs).2).2
  exact lv_irem B.1 B.2.1 d1 hy (kk p e s m args below meth c ad nb H locs ls B hR hn he hS hl (List.forall_mem_cons.mpr ⟨trivial, hvs2⟩))
theorem X_dup {v : Value} (hd : x_at (x_k M) pc = some (.dup, pc', t)) (hc : v.category = 1) (kk : x_W G M Z N cells slots pc' L (v :: v :: st)) : x_W G M Z N cells slots pc L (v :: st) := by
  intro p e s m args below meth c ad nb H locs ls B hR hn he hS hl hvs
  obtain ⟨d1, e1⟩ := x_decn B.2.2.2.2.2.2.2.2.2.2.2.2 hd (n := 0) rfl
  subst e1
  exact lv_dup B.1 B.2.1 d1 (by rw [x_tr_cat]; exact hc) (kk p e s m args below meth c ad nb H locs ls B hR hn he hS hl (List.forall_mem_cons.mpr ⟨hvs v List.mem_cons_self, hvs⟩))
theorem X_pop {v : Value} (hd : x_at (x_k M) pc = some (.pop, pc', t)) (hc : v.category = 1) (kk : x_W G M Z N cells slots pc' L st) : x_W G M Z N cells slots pc L (v :: st) := by
  intro p e s m args below meth c ad nb H locs ls B hR hn he hS hl hvs
  obtain ⟨d1, e1⟩ := x_decn B.2.2.2.2.2.2.2.2.2.2.2.2 hd (n := 0) rfl
  subst e1
  exact lv_pop B.1 B.2.1 d1 (by rw [x_tr_cat]; exact hc) (kk p e s m args below meth c ad nb H locs ls B hR hn he hS hl (List.forall_mem_cons.mp hvs).2)
theorem X_dup2 {v w : Value} (hd : x_at (x_k M) pc = some (.dup2, pc', t)) (hc : v.category = 1) (hc2 : w.category = 1) (kk : x_W G M Z N cells slots pc' L (v :: w :: v :: w :: st)) : x_W G M Z N cells slots pc L (v :: w :: st) := by
  intro p e s m args below meth c ad nb H locs ls B hR hn he hS hl hvs
  obtain ⟨d1, e1⟩ := x_decn B.2.2.2.2.2.2.2.2.2.2.2.2 hd (n := 0) rfl
  subst e1
  exact lv_dup2_11 B.1 B.2.1 d1 (by rw [x_tr_cat]; exact hc) (by rw [x_tr_cat]; exact hc2) (kk p e s m args below meth c ad nb H locs ls B hR hn he hS hl (List.forall_mem_cons.mpr ⟨hvs v List.mem_cons_self, List.forall_mem_cons.mpr ⟨hvs w (List.mem_cons_of_mem _ List.mem_cons_self), hvs⟩⟩))
theorem X_iinc {k : Nat} {n : Int} {x : Int32} (hd : x_at (x_k M) pc = some (.iinc k n, pc', t)) (hk : x_loc L k = some (.int x)) (hL : x_put1 (.int (x + Int32.ofInt n)) k L = some L') (kk : x_W G M Z N cells slots pc' L' st) : x_W G M Z N cells slots pc L st := by
  intro p e s m args below meth c ad nb H locs ls B hR hn he hS hl hvs
  obtain ⟨d1, e1⟩ := x_decn B.2.2.2.2.2.2.2.2.2.2.2.2 hd (n := 2) rfl
  subst e1
  obtain ⟨i0, hi0⟩ := List.getElem?_of_mem (x_al_mem.mpr ⟨_, hk, rfl⟩ : ((k, x_tr ad (.int x)) : Nat × Value) ∈ x_al ad L)
  have hlt : k < x_nL M := Nat.lt_of_lt_of_le (x_put1_eq hL).2.1 hl.1.2
  exact lv_iinc B.1 B.2.1 d1 (x_L_has hl) (k := i0) hi0 rfl hlt rfl (fun ls' h' => kk p e s m args below meth c ad nb H locs ls' B hR hn he hS (x_L_put1 hl (v := .int _) trivial hL h') hvs)
theorem X_goto {off : Int} (hd : x_at (x_k M) pc = some (.goto off, pc', t)) (kk : x_W G M Z N cells slots t L st) : x_W G M Z N cells slots pc L st := by
  intro p e s m args below meth c ad nb H locs ls B hR hn he hS hl hvs
  have hok := B.2.2.2.2.2.2.2.2.2.2.2.2
  obtain ⟨d1, e1⟩ := x_decn hok hd (n := 2) rfl
  exact lv_goto B.1 B.2.1 d1 ((x_dec hok hd).2.2.2 _ rfl) (kk p e s m args below meth c ad nb H locs ls B hR hn he hS hl hvs)
theorem X_if_eq {x : Int32} {off : Int} (hd : x_at (x_k M) pc = some (.ifCond .eq off, pc', t)) (kt : x = 0 → x_W G M Z N cells slots t L st) (kf : ¬ (x = 0) → x_W G M Z N cells slots pc' L st) : x_W G M Z N cells slots pc L (.int x :: st) := by
  intro p e s m args below meth c ad nb H locs ls B hR hn he hS hl hvs
  have hok := B.2.2.2.2.2.2.2.2.2.2.2.2
  obtain ⟨d1, e1⟩ := x_decn hok hd (n := 2) rfl
  subst e1
  have hv := (List.forall_mem_cons.mp hvs).2
  exact lv_if_eq B.1 B.2.1 d1 ((x_dec hok hd).2.2.2 _ rfl) (fun h => kt h p e s m args below meth c ad nb H locs ls B hR hn he hS hl hv) (fun h => kf h p e s m args below meth c ad nb H locs ls B hR hn he hS hl hv)
theorem X_icmp_eq {x y : Int32} {off : Int} (hd : x_at (x_k M) pc = some (.if_icmp .eq off, pc', t)) (kt : x = y → x_W G M Z N cells slots t L st) (kf : ¬ (x = y) → x_W G M Z N cells slots pc' L st) : x_W G M Z N cells slots pc L (.int y :: .int x :: st) := by
  intro p e s m args below meth c ad nb H locs ls B hR hn he hS hl hvs
  have hok := B.2.2.2.2.2.2.2.2.2.2.2.2
  obtain ⟨d1, e1⟩ := x_decn hok hd (n := 2) rfl
  subst e1
  have hv := (List.forall_mem_cons.mp (List.forall_mem_cons.mp hvs).2).2
  exact lv_icmp_eq B.1 B.2.1 d1 ((x_dec hok hd).2.2.2 _ rfl) (fun h => kt h p e s m args below meth c ad nb H locs ls B hR hn he hS hl hv) (fun h => kf h p e s m args below meth c ad nb H locs ls B hR hn he hS hl hv)
theorem X_if_ne {x : Int32} {off : Int} (hd : x_at (x_k M) pc = some (.ifCond .ne off, pc', t)) (kt : ¬ x = 0 → x_W G M Z N cells slots t L st) (kf : x = 0 → x_W G M Z N cells slots pc' L st) : x_W G M Z N cells slots pc L (.int x :: st) := by
  intro p e s m args below meth c ad nb H locs ls B hR hn he hS hl hvs
  have hok := B.2.2.2.2.2.2.2.2.2.2.2.2
  obtain ⟨d1, e1⟩ := x_decn hok hd (n := 2) rfl
  subst e1
  have hv := (List.forall_mem_cons.mp hvs).2
  exact lv_if_ne B.1 B.2.1 d1 ((x_dec hok hd).2.2.2 _ rfl) (fun h => kt h p e s m args below meth c ad nb H locs ls B hR hn he hS hl hv) (fun h => kf h p e s m args below meth c ad nb H locs ls B hR hn he hS hl hv)
theorem X_icmp_ne {x y : Int32} {off : Int} (hd : x_at (x_k M) pc = some (.if_icmp .ne off, pc', t)) (kt : ¬ x = y → x_W G M Z N cells slots t L st) (kf : x = y → x_W G M Z N cells slots pc' L st) : x_W G M Z N cells slots pc L (.int y :: .int x :: st) := by
  intro p e s m args below meth c ad nb H locs ls B hR hn he hS hl hvs
  have hok := B.2.2.2.2.2.2.2.2.2.2.2.2
  obtain ⟨d1, e1⟩ := x_decn hok hd (n := 2) rfl
  subst e1
  have hv := (List.forall_mem_cons.mp (List.forall_mem_cons.mp hvs).2).2
  exact lv_icmp_ne B.1 B.2.1 d1 ((x_dec hok hd).2.2.2 _ rfl) (fun h => kt h p e s m args below meth c ad nb H locs ls B hR hn he hS hl hv) (fun h => kf h p e s m args below meth c ad nb H locs ls B hR hn he hS hl hv)
theorem X_if_lt {x : Int32} {off : Int} (hd : x_at (x_k M) pc = some (.ifCond .lt off, pc', t)) (kt : x < 0 → x_W G M Z N cells slots t L st) (kf : ¬ (x < 0) → x_W G M Z N cells slots pc' L st) : x_W G M Z N cells slots pc L (.int x :: st) := by
  intro p e s m args below meth c ad nb H locs ls B hR hn he hS hl hvs
  have hok := B.2.2.2.2.2.2.2.2.2.2.2.2
  obtain ⟨d1, e1⟩ := x_decn hok hd (n := 2) rfl
  subst e1
  have hv := (List.forall_mem_cons.mp hvs).2
  exact lv_if_lt B.1 B.2.1 d1 ((x_dec hok hd).2.2.2 _ rfl) (fun h => kt h p e s m args below meth c ad nb H locs ls B hR hn he hS hl hv) (fun h => kf h p e s m args below meth c ad nb H locs ls B hR hn he hS hl hv)
theorem X_icmp_lt {x y : Int32} {off : Int} (hd : x_at (x_k M) pc = some (.if_icmp .lt off, pc', t)) (kt : x < y → x_W G M Z N cells slots t L st) (kf : ¬ (x < y) → x_W G M Z N cells slots pc' L st) : x_W G M Z N cells slots pc L (.int y :: .int x :: st) := by
  intro p e s m args below meth c ad nb H locs ls B hR hn he hS hl hvs
  have hok := B.2.2.2.2.2.2.2.2.2.2.2.2
  obtain ⟨d1, e1⟩ := x_decn hok hd (n := 2) rfl
  subst e1
  have hv := (List.forall_mem_cons.mp (List.forall_mem_cons.mp hvs).2).2
  exact lv_icmp_lt B.1 B.2.1 d1 ((x_dec hok hd).2.2.2 _ rfl) (fun h => kt h p e s m args below meth c ad nb H locs ls B hR hn he hS hl hv) (fun h => kf h p e s m args below meth c ad nb H locs ls B hR hn he hS hl hv)
theorem X_if_ge {x : Int32} {off : Int} (hd : x_at (x_k M) pc = some (.ifCond .ge off, pc', t)) (kt : 0 ≤ x → x_W G M Z N cells slots t L st) (kf : ¬ (0 ≤ x) → x_W G M Z N cells slots pc' L st) : x_W G M Z N cells slots pc L (.int x :: st) := by
  intro p e s m args below meth c ad nb H locs ls B hR hn he hS hl hvs
  have hok := B.2.2.2.2.2.2.2.2.2.2.2.2
  obtain ⟨d1, e1⟩ := x_decn hok hd (n := 2) rfl
  subst e1
  have hv := (List.forall_mem_cons.mp hvs).2
  exact lv_if_ge B.1 B.2.1 d1 ((x_dec hok hd).2.2.2 _ rfl) (fun h => kt h p e s m args below meth c ad nb H locs ls B hR hn he hS hl hv) (fun h => kf h p e s m args below meth c ad nb H locs ls B hR hn he hS hl hv)
theorem X_icmp_ge {x y : Int32} {off : Int} (hd : x_at (x_k M) pc = some (.if_icmp .ge off, pc', t)) (kt : y ≤ x → x_W G M Z N cells slots t L st) (kf : ¬ (y ≤ x) → x_W G M Z N cells slots pc' L st) : x_W G M Z N cells slots pc L (.int y :: .int x :: st) := by
  intro p e s m args below meth c ad nb H locs ls B hR hn he hS hl hvs
  have hok := B.2.2.2.2.2.2.2.2.2.2.2.2
  obtain ⟨d1, e1⟩ := x_decn hok hd (n := 2) rfl
  subst e1
  have hv := (List.forall_mem_cons.mp (List.forall_mem_cons.mp hvs).2).2
  exact lv_icmp_ge B.1 B.2.1 d1 ((x_dec hok hd).2.2.2 _ rfl) (fun h => kt h p e s m args below meth c ad nb H locs ls B hR hn he hS hl hv) (fun h => kf h p e s m args below meth c ad nb H locs ls B hR hn he hS hl hv)
theorem X_if_gt {x : Int32} {off : Int} (hd : x_at (x_k M) pc = some (.ifCond .gt off, pc', t)) (kt : 0 < x → x_W G M Z N cells slots t L st) (kf : ¬ (0 < x) → x_W G M Z N cells slots pc' L st) : x_W G M Z N cells slots pc L (.int x :: st) := by
  intro p e s m args below meth c ad nb H locs ls B hR hn he hS hl hvs
  have hok := B.2.2.2.2.2.2.2.2.2.2.2.2
  obtain ⟨d1, e1⟩ := x_decn hok hd (n := 2) rfl
  subst e1
  have hv := (List.forall_mem_cons.mp hvs).2
  exact lv_if_gt B.1 B.2.1 d1 ((x_dec hok hd).2.2.2 _ rfl) (fun h => kt h p e s m args below meth c ad nb H locs ls B hR hn he hS hl hv) (fun h => kf h p e s m args below meth c ad nb H locs ls B hR hn he hS hl hv)
theorem X_icmp_gt {x y : Int32} {off : Int} (hd : x_at (x_k M) pc = some (.if_icmp .gt off, pc', t)) (kt : y < x → x_W G M Z N cells slots t L st) (kf : ¬ (y < x) → x_W G M Z N cells slots pc' L st) : x_W G M Z N cells slots pc L (.int y :: .int x :: st) := by
  intro p e s m args below meth c ad nb H locs ls B hR hn he hS hl hvs
  have hok := B.2.2.2.2.2.2.2.2.2.2.2.2
  obtain ⟨d1, e1⟩ := x_decn hok hd (n := 2) rfl
  subst e1
  have hv := (List.forall_mem_cons.mp (List.forall_mem_cons.mp hvs).2).2
  exact lv_icmp_gt B.1 B.2.1 d1 ((x_dec hok hd).2.2.2 _ rfl) (fun h => kt h p e s m args below meth c ad nb H locs ls B hR hn he hS hl hv) (fun h => kf h p e s m args below meth c ad nb H locs ls B hR hn he hS hl hv)
theorem X_if_le {x : Int32} {off : Int} (hd : x_at (x_k M) pc = some (.ifCond .le off, pc', t)) (kt : x ≤ 0 → x_W G M Z N cells slots t L st) (kf : ¬ (x ≤ 0) → x_W G M Z N cells slots pc' L st) : x_W G M Z N cells slots pc L (.int x :: st) := by
  intro p e s m args below meth c ad nb H locs ls B hR hn he hS hl hvs
  have hok := B.2.2.2.2.2.2.2.2.2.2.2.2
  obtain ⟨d1, e1⟩ := x_decn hok hd (n := 2) rfl
  subst e1
  have hv := (List.forall_mem_cons.mp hvs).2
  exact lv_if_le B.1 B.2.1 d1 ((x_dec hok hd).2.2.2 _ rfl) (fun h => kt h p e s m args below meth c ad nb H locs ls B hR hn he hS hl hv) (fun h => kf h p e s m args below meth c ad nb H locs ls B hR hn he hS hl hv)
theorem X_icmp_le {x y : Int32} {off : Int} (hd : x_at (x_k M) pc = some (.if_icmp .le off, pc', t)) (kt : x ≤ y → x_W G M Z N cells slots t L st) (kf : ¬ (x ≤ y) → x_W G M Z N cells slots pc' L st) : x_W G M Z N cells slots pc L (.int y :: .int x :: st) := by
  intro p e s m args below meth c ad nb H locs ls B hR hn he hS hl hvs
  have hok := B.2.2.2.2.2.2.2.2.2.2.2.2
  obtain ⟨d1, e1⟩ := x_decn hok hd (n := 2) rfl
  subst e1
  have hv := (List.forall_mem_cons.mp (List.forall_mem_cons.mp hvs).2).2
  exact lv_icmp_le B.1 B.2.1 d1 ((x_dec hok hd).2.2.2 _ rfl) (fun h => kt h p e s m args below meth c ad nb H locs ls B hR hn he hS hl hv) (fun h => kf h p e s m args below meth c ad nb H locs ls B hR hn he hS hl hv)
theorem X_ifnonnull {x : Nat} {off : Int} (hd : x_at (x_k M) pc = some (.ifnonnull off, pc', t)) (kk : x_W G M Z N cells slots t L st) : x_W G M Z N cells slots pc L (.ref x :: st) := by
  intro p e s m args below meth c ad nb H locs ls B hR hn he hS hl hvs
  have hok := B.2.2.2.2.2.2.2.2.2.2.2.2
  obtain ⟨d1, e1⟩ := x_decn hok hd (n := 2) rfl
  subst e1
  exact lv_ifnonnull B.1 B.2.1 d1 ((x_dec hok hd).2.2.2 _ rfl) (kk p e s m args below meth c ad nb H locs ls B hR hn he hS hl (List.forall_mem_cons.mp hvs).2)
theorem X_ifnull {x : Nat} {off : Int} (hd : x_at (x_k M) pc = some (.ifnull off, pc', t)) (kk : x_W G M Z N cells slots pc' L st) : x_W G M Z N cells slots pc L (.ref x :: st) := by
  intro p e s m args below meth c ad nb H locs ls B hR hn he hS hl hvs
  have hok := B.2.2.2.2.2.2.2.2.2.2.2.2
  obtain ⟨d1, e1⟩ := x_decn hok hd (n := 2) rfl
  subst e1
  exact lv_ifnull B.1 B.2.1 d1 (kk p e s m args below meth c ad nb H locs ls B hR hn he hS hl (List.forall_mem_cons.mp hvs).2)
theorem X_ifnullN {off : Int} (hd : x_at (x_k M) pc = some (.ifnull off, pc', t)) (kk : x_W G M Z N cells slots t L st) : x_W G M Z N cells slots pc L (.null :: st) := by
  intro p e s m args below meth c ad nb H locs ls B hR hn he hS hl hvs
  have hok := B.2.2.2.2.2.2.2.2.2.2.2.2
  obtain ⟨d1, e1⟩ := x_decn hok hd (n := 2) rfl
  subst e1
  exact lv_ifnullN B.1 B.2.1 d1 ((x_dec hok hd).2.2.2 _ rfl) (kk p e s m args below meth c ad nb H locs ls B hR hn he hS hl (List.forall_mem_cons.mp hvs).2)
theorem X_ifnonnullN {off : Int} (hd : x_at (x_k M) pc = some (.ifnonnull off, pc', t)) (kk : x_W G M Z N cells slots pc' L st) : x_W G M Z N cells slots pc L (.null :: st) := by
  intro p e s m args below meth c ad nb H locs ls B hR hn he hS hl hvs
  have hok := B.2.2.2.2.2.2.2.2.2.2.2.2
  obtain ⟨d1, e1⟩ := x_decn hok hd (n := 2) rfl
  subst e1
  exact lv_ifnonnullN B.1 B.2.1 d1 (kk p e s m args below meth c ad nb H locs ls B hR hn he hS hl (List.forall_mem_cons.mp hvs).2)
theorem X_tabOut {dflt lo hi : Int} {offs : Array Int} {x : Int32} (tgt : Nat) (hd : x_at (x_k M) pc = some (.tableswitch dflt lo hi offs, pc', t)) (h : x.toInt < lo ∨ hi < x.toInt) (ht : (pc : Int) + dflt = (tgt : Int)) (kk : x_W G M Z N cells slots tgt L st) : x_W G M Z N cells slots pc L (.int x :: st) := by
  intro p e s m args below meth c ad nb H locs ls B hR hn he hS hl hvs
  exact lv_tableOut B.1 B.2.1 (x_dec B.2.2.2.2.2.2.2.2.2.2.2.2 hd).1 h ht (kk p e s m args below meth c ad nb H locs ls B hR hn he hS hl (List.forall_mem_cons.mp hvs).2)
theorem X_tabIn {dflt lo hi : Int} {offs : Array Int} {x : Int32} {off : Int} (tgt : Nat) (hd : x_at (x_k M) pc = some (.tableswitch dflt lo hi offs, pc', t)) (h1 : ¬ x.toInt < lo) (h2 : ¬ hi < x.toInt) (ho : offs[(x.toInt - lo).toNat]? = some off) (ht : (pc : Int) + off = (tgt : Int)) (kk : x_W G M Z N cells slots tgt L st) : x_W G M Z N cells slots pc L (.int x :: st) := by
  intro p e s m args below meth c ad nb H locs ls B hR hn he hS hl hvs
  exact lv_tableIn B.1 B.2.1 (x_dec B.2.2.2.2.2.2.2.2.2.2.2.2 hd).1 h1 h2 ho ht (kk p e s m args below meth c ad nb H locs ls B hR hn he hS hl (List.forall_mem_cons.mp hvs).2)
theorem X_lookup {dflt : Int} {ps : Array (Int × Int)} {x : Int32} {off : Int} (tgt : Nat) (hd : x_at (x_k M) pc = some (.lookupswitch dflt ps, pc', t)) (hp : (ps.toList.zip (ps.toList.drop 1)).all (fun (a, next) => a.1 < next.1) = true) (ho : Op.lookupswitch.offset ps.toList dflt x.toInt = off) (ht : (pc : Int) + off = (tgt : Int)) (kk : x_W G M Z N cells slots tgt L st) : x_W G M Z N cells slots pc L (.int x :: st) := by
  intro p e s m args below meth c ad nb H locs ls B hR hn he hS hl hvs
  exact lv_lookup B.1 B.2.1 (x_dec B.2.2.2.2.2.2.2.2.2.2.2.2 hd).1 hp ho ht (kk p e s m args below meth c ad nb H locs ls B hR hn he hS hl (List.forall_mem_cons.mp hvs).2)
/-- fewer of the locals are remembered -/
def x_sub : List (Option Value) → List (Option Value) → Prop
  | [], _ => True
  | none :: t, _ :: u => x_sub t u
  | some v :: t, some w :: u => v = w ∧ x_sub t u
  | _ :: _, _ => False
theorem x_sub_get : ∀ {L L' : List (Option Value)}, x_sub L' L → L'.length ≤ L.length ∧ ∀ (i : Nat) (v : Value), L'[i]? = some (some v) → L[i]? = some (some v)
  | L, [], _ => ⟨Nat.zero_le _, fun i v h => by simp at h⟩
  | [], a :: t, h => by cases a <;> exact absurd h (by simp [x_sub])
  | b :: u, none :: t, h => by
    obtain ⟨h1, h2⟩ := x_sub_get (L := u) (L' := t) h
    refine ⟨by simpa using h1, fun i v hi => ?_⟩
    cases i with
    | zero => simp at hi
    | succ i => simpa using h2 i v (by simpa using hi)
  | none :: u, some a :: t, h => absurd h (by simp [x_sub])
  | some b :: u, some a :: t, h => by
    obtain ⟨h1, h2⟩ := x_sub_get (L := u) (L' := t) h.2
    refine ⟨by simpa using h1, fun i v hi => ?_⟩
    cases i with
    | zero =>
      simp at hi ⊢
      rw [← h.1, hi]
    | succ i => simpa using h2 i v (by simpa using hi)
theorem X_loc (hs : x_sub L' L) (kk : x_W G M Z N cells slots pc L' st) : x_W G M Z N cells slots pc L st := by
  intro p e s m args below meth c ad nb H locs ls B hR hn he hS hl hvs
  obtain ⟨h1, h2⟩ := x_sub_get hs
  exact kk p e s m args below meth c ad nb H locs ls B hR hn he hS ⟨⟨hl.1.1, Nat.le_trans h1 hl.1.2⟩, hl.2.1, fun i v hi => hl.2.2 i v (h2 i v hi)⟩ hvs
/-- fewer cells are remembered -/
theorem X_cells {N' : XH} (hs : ∀ k c, N' k = some c → N k = some c) (kk : x_W G M Z N' cells slots pc L st) : x_W G M Z N cells slots pc L st := by
  intro p e s m args below meth c ad nb H locs ls B hR hn he hS hl hvs
  exact kk p e s m args below meth c ad nb H locs ls B (x_R_sub hR hs) hn he hS hl hvs
theorem X_room {cells' slots' : Nat} (h1 : cells ≤ cells') (h2 : slots ≤ slots') (kk : x_W G M Z N cells' slots' pc L st) : x_W G M Z N cells slots pc L st := by
  intro p e s m args below meth c ad nb H locs ls B hR hn he hS hl hvs
  exact W.widen h1 h2 (kk p e s m args below meth c ad nb H locs ls B hR hn he hS hl hvs)
theorem X_top {x : Int32} (kk : ∀ y : Int32, y = x → x_W G M Z N cells slots pc L (.int y :: st)) : x_W G M Z N cells slots pc L (.int x :: st) := kk x rfl
end XR1
end
section
/-! ===== the rows: fields, arrays, new cells ===== -/
theorem x_tr_fits {ad : Nat → Nat} {ty : FieldType} {v : Value} (h : narrow ty v = v ∧ fits ty v = true) : narrow ty (x_tr ad v) = x_tr ad v ∧ fits ty (x_tr ad v) = true := by
  obtain ⟨h1, h2⟩ := h
  cases v with
  | ref k =>
    refine ⟨by cases ty <;> rfl, ?_⟩
    cases ty <;> first | rfl | cases h2
  | _ => exact ⟨h1, h2⟩
theorem x_nest {G : XE} {s : State} {args : Array Value} (hK : x_Kn G) (hW : G.2.1.WarmedH s.vm) {own ref name desc host : String} {idx : Nat} (h : Cond.fieldLinkNest own idx ref name desc host ∈ lw_tbl) : (Cond.fieldLinkNest own idx ref name desc host).before args s = true :=
  va_Nw.use rfl (va_Nw.warmF hW (hK.2.2.1.1 _ h rfl))
section XR2
variable {G : XE} {M : XMI} {Z : XZ} {N : XH} {cells slots pc pc' t : Nat} {L L' : List (Option Value)} {st : List Value} {i : Instr}
theorem X_get {idx ci k o : Nat} {ty : FieldType} {fin : Bool} {V : Nat → Value} {v : Value} (hF : x_FL (x_own M) idx ci k ty fin) (hd : x_at (x_k M) pc = some (.getfield idx, pc', t)) (hN : N o = some (.inl (ci, V))) (hv : V k = v) (kk : x_W G M Z N cells slots pc' L (v :: st)) : x_W G M Z N cells slots pc L (.ref o :: st) := by
  intro p e s m args below meth c ad nb H locs ls B hR hn he hS hl hvs
  obtain ⟨hx, hb, hml, hr, hlk, hown, hts, hW, hkp, htb, hnm, hKn, hok⟩ := id B
  obtain ⟨d1, e1⟩ := x_decn hok hd (n := 2) rfl
  subst e1
  obtain ⟨C, T, n, tys, ⟨hc, hin, hty, hnms⟩, hk, -, -, hlink⟩ := hF
  obtain ⟨ho, g1, g2, g3, r, g4, cell, q1, q2, q3, q4⟩ := x_R_obj hR hN hc
  cases hc.symm.trans g4
  obtain ⟨hSl, hfc, kC, hkC, hkind⟩ := u_Kn_moved hW.alike (hKn.1 ci _ hc)
  obtain ⟨cf, kf, fi, f, hi, hsl⟩ := hSl k hk
  have K := kk p e s m args below meth c ad nb H locs ls B hR hn he hS hl (List.forall_mem_cons.mpr ⟨by rw [← hv]; exact g2 _ hc k hk, (List.forall_mem_cons.mp hvs).2⟩)
  have hst := (u_facts hfc hkC (u_lays hts hin hk) hi).1
  have hslot : cell.slots[f.slot]? = some (x_tr ad v) := by rw [hsl, q4 k hk]; exact congrArg (fun z => some (x_tr ad z)) hv
  rcases hlink with h | ⟨host, h⟩
  · exact W.getf hx hb hown (hts _ h) hi hst q1 (by rw [q3]; exact fun h => by cases h) hslot rfl rfl d1 K
  · exact va_Wgetf hx hb hown (x_nest hKn hW h) hi hst q1 (by rw [q3]; exact fun h => by cases h) hslot rfl rfl d1 K
theorem x_cell_put {ad : Nat → Nat} {o ci k : Nat} {C : String} {T : u_T} {n : Nat} {tys : Nat → FieldType} {s : State} {args : Array Value} {V : Nat → Value} {v : Value} {H' : Heap} {cell : Cell} (hc : x_Cl ci C T n tys) (hts : ∀ w ∈ x_T, w.before args s = true) (hKu : u_Kn s C T n (G.2.2.1 ci) (G.2.2.2.1 ci)) (hk : k < n) (h0 : x_n0 G ≤ o)
    (q2 : cell.cls = G.2.2.1 ci) (q3 : cell.vm = .none) (q4 : ∀ j, j < n → cell.slots[G.2.2.2.1 ci j]? = some (x_tr ad (V j))) (e1 : H'[o]? = some (cell.setSlot (G.2.2.2.1 ci k) (x_tr ad v))) : x_cell G ad o (.inl (ci, updV V k v)) H' := by
  obtain ⟨hc1, hin, hty, hnms⟩ := hc
  have hap : ∀ a b, a < n → b < n → a ≠ b → (G.2.2.2.1 ci) a ≠ (G.2.2.2.1 ci) b := by
    intro x y hx hy hne
    obtain ⟨hS, -⟩ := hKu
    obtain ⟨_, _, _, fa, hia, ea⟩ := hS x hx
    obtain ⟨_, _, _, fb, hib, eb⟩ := hS y hy
    rw [← ea, ← eb]
    refine u_apart (u_lays hts hin hx) (u_lays hts hin hy) hia hib ?_
    rw [(State.fieldFound?_type hia (hty x hx)).1, (State.fieldFound?_type hib (hty y hy)).1]
    exact hnms x hx y hy hne
  refine ⟨h0, _, hc1, _, e1, q2, q3, fun j hj => ?_⟩
  rw [t_set (V := fun j => x_tr ad (V j)) q4 hap hk (x_tr ad v) j hj]
  show some (updV (fun j => x_tr ad (V j)) k (x_tr ad v) j) = some (x_tr ad (updV V k v j))
  unfold updV
  by_cases hjk : j = k
  · rw [if_pos hjk, if_pos hjk]
  · rw [if_neg hjk, if_neg hjk]
theorem x_cok_upd {nb ci k : Nat} {V : Nat → Value} {v : Value} (h : x_cok nb (.inl (ci, V))) (hv : x_vok nb v) : x_cok nb (.inl (ci, updV V k v)) := fun r hr j hj => by
  unfold updV
  by_cases e : j = k
  · rw [if_pos e]; exact hv
  · rw [if_neg e]; exact h r hr j hj
theorem x_cok_upa {nb n k : Nat} {mu : Bool} {ty : FieldType} {f : Nat → Value} {v : Value} (h : x_cok nb (.inr (mu, ty, n, f))) (hv : x_vok nb v) : x_cok nb (.inr (mu, ty, n, updV f k v)) := fun j hj => by
  unfold updV
  by_cases e : j = k
  · rw [if_pos e]; exact hv
  · rw [if_neg e]; exact h j hj
theorem x_S_put {A : Nat → Prop} {H0 H H1 : Heap} {locs : List Loc} {a k : Nat} (h : va_S A H0 H locs) (z : H1.size = H.size) (oq : ∀ q : Nat, q ≠ a → H1[q]? = H[q]?) (ha : A a) : va_S A H0 H1 (locs ++ [⟨a, k⟩]) := h.put z oq ha
theorem X_put {idx ci k o : Nat} {ty : FieldType} {V : Nat → Value} {v : Value} (hF : x_FL (x_own M) idx ci k ty false) (hd : x_at (x_k M) pc = some (.putfield idx, pc', t)) (hN : N o = some (.inl (ci, V))) (hv : narrow ty v = v ∧ fits ty v = true) (kk : x_W G M Z (x_set N o (.inl (ci, updV V k v))) cells slots pc' L st) : x_W G M Z N cells slots pc L (v :: .ref o :: st) := by
  intro p e s m args below meth c ad nb H locs ls B hR hn he hS hl hvs
  obtain ⟨hx, hb, hml, hr, hlk, hown, hts, hW, hkp, htb, hnm, hKn, hok⟩ := id B
  obtain ⟨d1, e1⟩ := x_decn hok hd (n := 2) rfl
  subst e1
  obtain ⟨C, T, n, tys, hcl, hk, hte, hfin, hlink⟩ := hF
  obtain ⟨hc, hin, hty, hnms⟩ := id hcl
  obtain ⟨ho, g1, g2, g3, r, g4, cell, q1, q2, q3, q4⟩ := x_R_obj hR hN hc
  cases hc.symm.trans g4
  have hKu := u_Kn_moved hW.alike (hKn.1 ci _ hc)
  obtain ⟨hSl, hfc, kC, hkC, hkind⟩ := id hKu
  obtain ⟨cf, kf, fi, f, hi, hsl⟩ := hSl k hk
  have hlay := hts _ (hin _ (u_in_lay hk))
  unfold u_lay at hlay
  rw [if_neg (by rw [hfin]; decide)] at hlay
  have hst := (u_facts hfc hkC (u_lays hts hin hk) hi).1
  have hv2 := x_tr_fits (ad := ad) hv
  have h6 := u_store hfc hkC hkind hlay hi (by rw [hty k hk, hte]) hv2.1 hv2.2
  have hvv := hvs v List.mem_cons_self
  have K := fun H' (z1 : H'[ad o]? = some (cell.setSlot f.slot (x_tr ad v))) (z2 : H'.size = H.size) (z3 : ∀ q, q ≠ ad o → H'[q]? = H[q]?) =>
    kk p e s m args below meth c ad nb H' (locs ++ [⟨ad o, f.slot⟩]) ls B (x_R_put hR ho hN (x_cok_upd g2 hvv) (x_cell_put hcl hts hKu hk g3 q2 q3 q4 (by rw [z1, hsl])) z3) hn he (hS.put z2 z3 g3) hl (List.forall_mem_cons.mp (List.forall_mem_cons.mp hvs).2).2
  rcases hlink with h | ⟨host, h⟩
  · exact W.putK hx hb ⟨hown, hts _ h, ⟨_, _, _, hi⟩, hst⟩ (by rw [q2]; exact h6) q1 q3 (by rw [hsl]; exact k2_hasslot (q4 k hk)) rfl rfl d1 K
  · exact va_WputK hx hb hown (x_nest hKn hW h) hi hst (by rw [q2]; exact h6) q1 q3 (by rw [hsl]; exact k2_hasslot (q4 k hk)) rfl rfl d1 K
/-- a final field, in its own class's constructor -/
theorem X_putF {idx ci k o : Nat} {ty : FieldType} {V : Nat → Value} {v : Value} (hF : x_FL (x_own M) idx ci k ty true) (hd : x_at (x_k M) pc = some (.putfield idx, pc', t)) (hN : N o = some (.inl (ci, V))) (hv : narrow ty v = v ∧ fits ty v = true) (hini : (x_y M).name = "<init>") (hdecl : ∀ (C : String) (T : u_T) (n : Nat), vwCl[ci]? = some (C, T, n) → (T k).1 = x_own M) (kk : x_W G M Z (x_set N o (.inl (ci, updV V k v))) cells slots pc' L st) : x_W G M Z N cells slots pc L (v :: .ref o :: st) := by
  intro p e s m args below meth c ad nb H locs ls B hR hn he hS hl hvs
  obtain ⟨hx, hb, hml, hr, hlk, hown, hts, hW, hkp, htb, hnm, hKn, hok⟩ := id B
  obtain ⟨d1, e1⟩ := x_decn hok hd (n := 2) rfl
  subst e1
  obtain ⟨C, T, n, tys, hcl, hk, hte, hfin, hlink⟩ := hF
  obtain ⟨hc, hin, hty, hnms⟩ := id hcl
  obtain ⟨ho, g1, g2, g3, r, g4, cell, q1, q2, q3, q4⟩ := x_R_obj hR hN hc
  cases hc.symm.trans g4
  have hKu := u_Kn_moved hW.alike (hKn.1 ci _ hc)
  obtain ⟨hSl, hfc, kC, hkC, hkind⟩ := id hKu
  obtain ⟨cf, kf, fi, f, hi, hsl⟩ := hSl k hk
  have hlay := hts _ (hin _ (u_in_lay hk))
  unfold u_lay at hlay
  rw [if_pos hfin] at hlay
  have hst := (u_facts hfc hkC (u_lays hts hin hk) hi).1
  have hv2 := x_tr_fits (ad := ad) hv
  have hcf : m.cls = cf := by
    obtain ⟨_, _, c', _, _, _, -, -, hf', -, -, -, hown2, -⟩ := Cond.laysFinal_spec hlay
    have e1 : c' = cf := by have := hi.symm.trans hf'; simp at this; exact this.1.symm
    rw [hdecl _ _ _ hc] at hown2
    rw [← e1]; exact Option.some.inj (hown.symm.trans hown2)
  have h6 := u_fits hfc hkC hkind (Or.inr hlay) hi (by rw [hty k hk, hte]) hv2.1 hv2.2
  have hvv := hvs v List.mem_cons_self
  have K := fun H' (z1 : H'[ad o]? = some (cell.setSlot f.slot (x_tr ad v))) (z2 : H'.size = H.size) (z3 : ∀ q, q ≠ ad o → H'[q]? = H[q]?) =>
    kk p e s m args below meth c ad nb H' (locs ++ [⟨ad o, f.slot⟩]) ls B (x_R_put hR ho hN (x_cok_upd g2 hvv) (x_cell_put hcl hts hKu hk g3 q2 q3 q4 (by rw [z1, hsl])) z3) hn he (hS.put z2 z3 g3) hl (List.forall_mem_cons.mp (List.forall_mem_cons.mp hvs).2).2
  rcases hlink with h | ⟨host, h⟩
  · exact W.putFinK hx hb hown (hts _ h) hi hst hcf (hnm.trans hini) (by rw [q2]; exact h6) q1 q3 (by rw [hsl]; exact k2_hasslot (q4 k hk)) rfl rfl d1 K
  · refine va_Wputf hx hb hown (x_nest hKn hW h) hi hst (Or.inr ⟨hcf, hnm.trans hini⟩) q1 (by rw [q3]; exact fun h => by cases h) (by rw [hsl]; exact k2_hasslot (q4 k hk)) h6.1 (by rw [q2, q3]; exact h6.2) rfl rfl d1 (K _ ?_ ?_ ?_)
    · have ha : ad o < H.size := (Array.getElem?_eq_some_iff.mp q1).1
      simp [Array.getElem?_setIfInBounds, ha]
    · simp
    · intro q hq
      simp [Array.getElem?_setIfInBounds, Ne.symm hq]

theorem X_iald {a n : Nat} {mu : Bool} {f : Nat → Value} {j : Int32} {v : Value} (hd : x_at (x_k M) pc = some (.iaload, pc', t)) (hN : N a = some (.inr (mu, .int, n, f))) (hin : vp_in j n) (hv : f j.toNatClampNeg = v) (kk : x_W G M Z N cells slots pc' L (v :: st)) : x_W G M Z N cells slots pc L (.int j :: .ref a :: st) := by
  intro p e s m args below meth c ad nb H locs ls B hR hn he hS hl hvs
  obtain ⟨hx, hb, hml, hr, hlk, hown, hts, hW, hkp, htb, hnm, hKn, hok⟩ := id B
  obtain ⟨d1, e1⟩ := x_decn hok hd (n := 0) rfl
  subst e1
  obtain ⟨ho, g1, g2, g3, g4, g5⟩ := x_R_arr hR hN
  have hlt : j.toNatClampNeg < n := Nat.not_le.mp fun q => hin (Or.inr q)
  have K := kk p e s m args below meth c ad nb H locs ls B hR hn he hS hl (List.forall_mem_cons.mpr ⟨by rw [← hv]; exact g2 _ hlt, (List.forall_mem_cons.mp (List.forall_mem_cons.mp hvs).2).2⟩)
  exact W.iald hx hb g5 (arrOfT_moved hW.alike (hKn.2.1 _ g4).1 n _) (fun q => by cases q) (by rw [arrV_size]; exact hin) (by rw [arrV_read _ _ hlt, hv]) rfl rfl d1 K
theorem X_lald {a n : Nat} {mu : Bool} {f : Nat → Value} {j : Int32} {v : Value} (hd : x_at (x_k M) pc = some (.laload, pc', t)) (hN : N a = some (.inr (mu, .long, n, f))) (hin : vp_in j n) (hv : f j.toNatClampNeg = v) (kk : x_W G M Z N cells slots pc' L (v :: st)) : x_W G M Z N cells slots pc L (.int j :: .ref a :: st) := by
  intro p e s m args below meth c ad nb H locs ls B hR hn he hS hl hvs
  obtain ⟨hx, hb, hml, hr, hlk, hown, hts, hW, hkp, htb, hnm, hKn, hok⟩ := id B
  obtain ⟨d1, e1⟩ := x_decn hok hd (n := 0) rfl
  subst e1
  obtain ⟨ho, g1, g2, g3, g4, g5⟩ := x_R_arr hR hN
  have hlt : j.toNatClampNeg < n := Nat.not_le.mp fun q => hin (Or.inr q)
  have K := kk p e s m args below meth c ad nb H locs ls B hR hn he hS hl (List.forall_mem_cons.mpr ⟨by rw [← hv]; exact g2 _ hlt, (List.forall_mem_cons.mp (List.forall_mem_cons.mp hvs).2).2⟩)
  exact W.lald hx hb g5 (arrOfT_moved hW.alike (hKn.2.1 _ g4).1 n _) (fun q => by cases q) (by rw [arrV_size]; exact hin) (by rw [arrV_read _ _ hlt, hv]) rfl rfl d1 K
theorem X_bald {a n : Nat} {mu : Bool} {f : Nat → Value} {j : Int32} {v : Value} (hd : x_at (x_k M) pc = some (.baload, pc', t)) (hN : N a = some (.inr (mu, .byte, n, f))) (hin : vp_in j n) (hv : f j.toNatClampNeg = v) (kk : x_W G M Z N cells slots pc' L (v :: st)) : x_W G M Z N cells slots pc L (.int j :: .ref a :: st) := by
  intro p e s m args below meth c ad nb H locs ls B hR hn he hS hl hvs
  obtain ⟨hx, hb, hml, hr, hlk, hown, hts, hW, hkp, htb, hnm, hKn, hok⟩ := id B
  obtain ⟨d1, e1⟩ := x_decn hok hd (n := 0) rfl
  subst e1
  obtain ⟨ho, g1, g2, g3, g4, g5⟩ := x_R_arr hR hN
  have hlt : j.toNatClampNeg < n := Nat.not_le.mp fun q => hin (Or.inr q)
  have K := kk p e s m args below meth c ad nb H locs ls B hR hn he hS hl (List.forall_mem_cons.mpr ⟨by rw [← hv]; exact g2 _ hlt, (List.forall_mem_cons.mp (List.forall_mem_cons.mp hvs).2).2⟩)
  exact W.bald hx hb g5 (arrOfT_moved hW.alike (hKn.2.1 _ g4).1 n _) (fun q => by cases q) (by rw [arrV_size]; exact hin) (by rw [arrV_read _ _ hlt, hv]) rfl rfl d1 K
theorem X_zald {a n : Nat} {mu : Bool} {f : Nat → Value} {j : Int32} {v : Value} (hd : x_at (x_k M) pc = some (.baload, pc', t)) (hN : N a = some (.inr (mu, .boolean, n, f))) (hin : vp_in j n) (hv : f j.toNatClampNeg = v) (kk : x_W G M Z N cells slots pc' L (v :: st)) : x_W G M Z N cells slots pc L (.int j :: .ref a :: st) := by
  intro p e s m args below meth c ad nb H locs ls B hR hn he hS hl hvs
  obtain ⟨hx, hb, hml, hr, hlk, hown, hts, hW, hkp, htb, hnm, hKn, hok⟩ := id B
  obtain ⟨d1, e1⟩ := x_decn hok hd (n := 0) rfl
  subst e1
  obtain ⟨ho, g1, g2, g3, g4, g5⟩ := x_R_arr hR hN
  have hlt : j.toNatClampNeg < n := Nat.not_le.mp fun q => hin (Or.inr q)
  have K := kk p e s m args below meth c ad nb H locs ls B hR hn he hS hl (List.forall_mem_cons.mpr ⟨by rw [← hv]; exact g2 _ hlt, (List.forall_mem_cons.mp (List.forall_mem_cons.mp hvs).2).2⟩)
  exact W.zald hx hb g5 (arrOfT_moved hW.alike (hKn.2.1 _ g4).1 n _) (fun q => by cases q) (by rw [arrV_size]; exact hin) (by rw [arrV_read _ _ hlt, hv]) rfl rfl d1 K
theorem X_aald {a n : Nat} {mu : Bool} {ty : FieldType} {f : Nat → Value} {j : Int32} {v : Value} (hd : x_at (x_k M) pc = some (.aaload, pc', t)) (hN : N a = some (.inr (mu, ty, n, f))) (hty : ty.isReference = true) (hin : vp_in j n) (hv : f j.toNatClampNeg = v) (kk : x_W G M Z N cells slots pc' L (v :: st)) : x_W G M Z N cells slots pc L (.int j :: .ref a :: st) := by
  intro p e s m args below meth c ad nb H locs ls B hR hn he hS hl hvs
  obtain ⟨hx, hb, hml, hr, hlk, hown, hts, hW, hkp, htb, hnm, hKn, hok⟩ := id B
  obtain ⟨d1, e1⟩ := x_decn hok hd (n := 0) rfl
  subst e1
  obtain ⟨ho, g1, g2, g3, g4, g5⟩ := x_R_arr hR hN
  have hlt : j.toNatClampNeg < n := Nat.not_le.mp fun q => hin (Or.inr q)
  have K := kk p e s m args below meth c ad nb H locs ls B hR hn he hS hl (List.forall_mem_cons.mpr ⟨by rw [← hv]; exact g2 _ hlt, (List.forall_mem_cons.mp (List.forall_mem_cons.mp hvs).2).2⟩)
  exact W.aald hx hb g5 (arrOfT_moved hW.alike (hKn.2.1 _ g4).1 n _) hty (fun q => by cases q) (by rw [arrV_size]; exact hin) (by rw [arrV_read _ _ hlt, hv]) rfl rfl d1 K
theorem X_alen {a n : Nat} {mu : Bool} {ty : FieldType} {f : Nat → Value} (hd : x_at (x_k M) pc = some (.arraylength, pc', t)) (hN : N a = some (.inr (mu, ty, n, f))) (kk : x_W G M Z N cells slots pc' L (.int (Int32.ofNat n) :: st)) : x_W G M Z N cells slots pc L (.ref a :: st) := by
  intro p e s m args below meth c ad nb H locs ls B hR hn he hS hl hvs
  obtain ⟨hx, hb, hml, hr, hlk, hown, hts, hW, hkp, htb, hnm, hKn, hok⟩ := id B
  obtain ⟨d1, e1⟩ := x_decn hok hd (n := 0) rfl
  subst e1
  obtain ⟨ho, g1, g2, g3, g4, g5⟩ := x_R_arr hR hN
  have K := kk p e s m args below meth c ad nb H locs ls B hR hn he hS hl (List.forall_mem_cons.mpr ⟨trivial, (List.forall_mem_cons.mp hvs).2⟩)
  exact W.alen (n := Int32.ofNat n) hx hb g5 (arrOfT_moved hW.alike (hKn.2.1 _ g4).1 n _) (by rw [arrV_size] <;> rfl) rfl rfl d1 K
theorem x_cell_upa {ad : Nat → Nat} {a n k : Nat} {mu : Bool} {ty : FieldType} {f : Nat → Value} {v : Value} {H' : Heap} (h1 : mu = true → x_n0 G ≤ a) (h2 : ty ∈ x_tys) (e : H'[a]? = some ((arrV (G.2.2.2.2.1 ty) n (fun j => x_tr ad (f j))).setSlot k (x_tr ad v))) : x_cell G ad a (.inr (mu, ty, n, updV f k v)) H' := by
  refine ⟨h1, h2, ?_⟩
  rw [e, arrV_store]
  congr 2
  funext j
  unfold updV
  by_cases hj : j = k
  · rw [if_pos hj, if_pos hj]
  · rw [if_neg hj, if_neg hj]
theorem X_iast {a n : Nat} {f : Nat → Value} {j : Int32} {x : Int32} (hd : x_at (x_k M) pc = some (.iastore, pc', t)) (hN : N a = some (.inr (true, .int, n, f))) (hin : vp_in j n) (kk : x_W G M Z (x_set N a (.inr (true, .int, n, updV f j.toNatClampNeg (.int x)))) cells slots pc' L st) : x_W G M Z N cells slots pc L (.int x :: .int j :: .ref a :: st) := by
  intro p e s m args below meth c ad nb H locs ls B hR hn he hS hl hvs
  obtain ⟨hx, hb, hml, hr, hlk, hown, hts, hW, hkp, htb, hnm, hKn, hok⟩ := id B
  obtain ⟨d1, e1⟩ := x_decn hok hd (n := 0) rfl
  subst e1
  obtain ⟨ho, g1, g2, g3, g4, g5⟩ := x_R_arr hR hN
  have K := fun H' (z1 : H'[ad a]? = some ((arrV (G.2.2.2.2.1 .int) n (fun j => x_tr ad (f j))).setSlot j.toNatClampNeg (.int x))) (z2 : H'.size = H.size) (z3 : ∀ q, q ≠ ad a → H'[q]? = H[q]?) =>
    kk p e s m args below meth c ad nb H' (locs ++ [⟨ad a, j.toNatClampNeg⟩]) ls B (x_R_put hR ho hN (x_cok_upa g2 (v := .int x) trivial) (x_cell_upa g3 g4 (v := .int x) z1) z3) hn he (hS.put z2 z3 (g3 rfl)) hl (List.forall_mem_cons.mp (List.forall_mem_cons.mp (List.forall_mem_cons.mp hvs).2).2).2
  exact W.iast hx hb g5 (arrOfT_moved hW.alike (hKn.2.1 _ g4).1 n _) (fun q => by cases q) (by rw [arrV_size]; exact hin) rfl rfl d1 K
theorem X_last {a n : Nat} {f : Nat → Value} {j : Int32} {x : Int64} (hd : x_at (x_k M) pc = some (.lastore, pc', t)) (hN : N a = some (.inr (true, .long, n, f))) (hin : vp_in j n) (kk : x_W G M Z (x_set N a (.inr (true, .long, n, updV f j.toNatClampNeg (.long x)))) cells slots pc' L st) : x_W G M Z N cells slots pc L (.long x :: .int j :: .ref a :: st) := by
  intro p e s m args below meth c ad nb H locs ls B hR hn he hS hl hvs
  obtain ⟨hx, hb, hml, hr, hlk, hown, hts, hW, hkp, htb, hnm, hKn, hok⟩ := id B
  obtain ⟨d1, e1⟩ := x_decn hok hd (n := 0) rfl
  subst e1
  obtain ⟨ho, g1, g2, g3, g4, g5⟩ := x_R_arr hR hN
  have K := fun H' (z1 : H'[ad a]? = some ((arrV (G.2.2.2.2.1 .long) n (fun j => x_tr ad (f j))).setSlot j.toNatClampNeg (.long x))) (z2 : H'.size = H.size) (z3 : ∀ q, q ≠ ad a → H'[q]? = H[q]?) =>
    kk p e s m args below meth c ad nb H' (locs ++ [⟨ad a, j.toNatClampNeg⟩]) ls B (x_R_put hR ho hN (x_cok_upa g2 (v := .long x) trivial) (x_cell_upa g3 g4 (v := .long x) z1) z3) hn he (hS.put z2 z3 (g3 rfl)) hl (List.forall_mem_cons.mp (List.forall_mem_cons.mp (List.forall_mem_cons.mp hvs).2).2).2
  exact W.last hx hb g5 (arrOfT_moved hW.alike (hKn.2.1 _ g4).1 n _) (fun q => by cases q) (by rw [arrV_size]; exact hin) rfl rfl d1 K
theorem X_bast {a n : Nat} {f : Nat → Value} {j : Int32} {x : Int32} (hd : x_at (x_k M) pc = some (.bastore, pc', t)) (hN : N a = some (.inr (true, .byte, n, f))) (hin : vp_in j n) (hnar : narrow .byte (.int x) = .int x) (kk : x_W G M Z (x_set N a (.inr (true, .byte, n, updV f j.toNatClampNeg (.int x)))) cells slots pc' L st) : x_W G M Z N cells slots pc L (.int x :: .int j :: .ref a :: st) := by
  intro p e s m args below meth c ad nb H locs ls B hR hn he hS hl hvs
  obtain ⟨hx, hb, hml, hr, hlk, hown, hts, hW, hkp, htb, hnm, hKn, hok⟩ := id B
  obtain ⟨d1, e1⟩ := x_decn hok hd (n := 0) rfl
  subst e1
  obtain ⟨ho, g1, g2, g3, g4, g5⟩ := x_R_arr hR hN
  have K := fun H' (z1 : H'[ad a]? = some ((arrV (G.2.2.2.2.1 .byte) n (fun j => x_tr ad (f j))).setSlot j.toNatClampNeg (.int x))) (z2 : H'.size = H.size) (z3 : ∀ q, q ≠ ad a → H'[q]? = H[q]?) =>
    kk p e s m args below meth c ad nb H' (locs ++ [⟨ad a, j.toNatClampNeg⟩]) ls B (x_R_put hR ho hN (x_cok_upa g2 (v := .int x) trivial) (x_cell_upa g3 g4 (v := .int x) z1) z3) hn he (hS.put z2 z3 (g3 rfl)) hl (List.forall_mem_cons.mp (List.forall_mem_cons.mp (List.forall_mem_cons.mp hvs).2).2).2
  exact W.bast hx hb g5 (arrOfT_moved hW.alike (hKn.2.1 _ g4).1 n _) (fun q => by cases q) (by rw [arrV_size]; exact hin) rfl rfl d1 (fun H1 e z oq => K H1 (by rw [e]; first | rfl | rw [hnar]) z oq)
theorem X_zast {a n : Nat} {f : Nat → Value} {j : Int32} {x : Int32} (hd : x_at (x_k M) pc = some (.bastore, pc', t)) (hN : N a = some (.inr (true, .boolean, n, f))) (hin : vp_in j n) (hnar : narrow .boolean (.int x) = .int x) (kk : x_W G M Z (x_set N a (.inr (true, .boolean, n, updV f j.toNatClampNeg (.int x)))) cells slots pc' L st) : x_W G M Z N cells slots pc L (.int x :: .int j :: .ref a :: st) := by
  intro p e s m args below meth c ad nb H locs ls B hR hn he hS hl hvs
  obtain ⟨hx, hb, hml, hr, hlk, hown, hts, hW, hkp, htb, hnm, hKn, hok⟩ := id B
  obtain ⟨d1, e1⟩ := x_decn hok hd (n := 0) rfl
  subst e1
  obtain ⟨ho, g1, g2, g3, g4, g5⟩ := x_R_arr hR hN
  have K := fun H' (z1 : H'[ad a]? = some ((arrV (G.2.2.2.2.1 .boolean) n (fun j => x_tr ad (f j))).setSlot j.toNatClampNeg (.int x))) (z2 : H'.size = H.size) (z3 : ∀ q, q ≠ ad a → H'[q]? = H[q]?) =>
    kk p e s m args below meth c ad nb H' (locs ++ [⟨ad a, j.toNatClampNeg⟩]) ls B (x_R_put hR ho hN (x_cok_upa g2 (v := .int x) trivial) (x_cell_upa g3 g4 (v := .int x) z1) z3) hn he (hS.put z2 z3 (g3 rfl)) hl (List.forall_mem_cons.mp (List.forall_mem_cons.mp (List.forall_mem_cons.mp hvs).2).2).2
  exact W.zast hx hb g5 (arrOfT_moved hW.alike (hKn.2.1 _ g4).1 n _) (fun q => by cases q) (by rw [arrV_size]; exact hin) rfl rfl d1 (fun H1 e z oq => K H1 (by rw [e]; first | rfl | rw [hnar]) z oq)
theorem x_S_new {A : Nat → Prop} {H0 H H1 : Heap} {locs : List Loc} (h : va_S A H0 H locs) (z : H1.size = H.size + 1) (oq : ∀ q : Nat, q < H.size → H1[q]? = H[q]?) : va_S A H0 H1 locs :=
  ⟨Nat.le_trans h.1 (by omega), fun x h1 h2 => (oq x (Nat.lt_of_lt_of_le h1 h.1)).trans (h.2.1 x h1 h2), h.2.2⟩
theorem x_fits_def (ad : Nat → Nat) (ty : FieldType) : x_tr ad (defaultValue ty) = defaultValue ty := by cases ty <;> rfl
theorem x_vok_def (nb : Nat) (ty : FieldType) : x_vok nb (defaultValue ty) := by cases ty <;> trivial
theorem x_n0_le {s : State} {H : Heap} {locs : List Loc} (hk : x_kept G s.heap) (hS : va_S (x_A G) s.heap H locs) : x_n0 G ≤ H.size := Nat.le_trans hk.1 hS.1
/-- a new cell, named q: what follows, at the machine -/
def x_K (G : XE) (M : XMI) (Z : XZ) (N : XH) (cells slots pc : Nat) (L : List (Option Value)) (st : List Value) (c : XC) : Prop :=
  ∀ (p : Program) (e : Env) (s : State) (m : MethodId) (args : Array Value) (below : List Frame) (meth : Method) (co : Code) (ad : Nat → Nat) (nb : Nat) (H H1 : Heap) (locs : List Loc) (ls : Array Slot),
    x_B G M p s m args meth co → x_R G ad nb N H → Z.2.2.1 ≤ nb → x_ext Z.2.2.1 Z.2.1 ad → va_S (x_A G) s.heap H locs → x_L ad nb (x_nL M) L ls → (∀ v ∈ st, x_vok nb v) →
    x_cok nb c → x_cell G ad H.size c H1 → H1.size = H.size + 1 → (∀ q, q < H.size → H1[q]? = H[q]?) → W p G.1 e Z.1 s m args below meth co H1 locs cells slots (Z.2.2.2 below args s) (F0 m pc ls (.ref H.size :: st.map (x_tr ad)))
theorem x_K_any {c : XC} (h0 : N 0 = none) (kk : ∀ q, N q = none → 64 ≤ q → x_W G M Z (x_set N q c) cells slots pc L (.ref q :: st)) : x_K G M Z N cells slots pc L st c := by
  intro p e s m args below meth co ad nb H H1 locs ls B hR hn he hS hl hvs hc hcell z2 z3
  obtain ⟨r1, r2⟩ := x_R_new hR h0 rfl hc hcell z3
  have ex := x_adn_ext ad nb H.size
  have K := kk nb r2 hR.2.2.2.1 p e s m args below meth co (x_adn ad nb H.size) (nb + 1) H1 locs ls B r1 (Nat.le_succ_of_le hn) (fun k hk => (ex k (Nat.lt_of_lt_of_le hk hn)).trans (he k hk)) (x_S_new hS z2 z3) (x_L_ext ex (Nat.le_succ _) hl) (List.forall_mem_cons.mpr ⟨Nat.lt_succ_self nb, fun v hv => x_vok_mono (Nat.le_succ _) (hvs v hv)⟩)
  have e1 : x_tr (x_adn ad nb H.size) (.ref nb) = .ref H.size := congrArg Value.ref (show x_adn ad nb H.size nb = H.size by unfold x_adn; rw [if_pos rfl])
  rw [List.map_cons, x_map_ext ex hvs, e1] at K
  exact K
/-- .. where the next name is known -/
theorem x_K_gh {c : XC} {f : Nat} (hg : N 0 = some (x_gh f)) (kk : 64 ≤ f → N f = none → x_W G M Z (x_set (x_set N f c) 0 (x_gh (f + 1))) cells slots pc L (.ref f :: st)) : x_K G M Z N cells slots pc L st c := by
  intro p e s m args below meth co ad nb H H1 locs ls B hR hn he hS hl hvs hc hcell z2 z3
  obtain ⟨rr, hf⟩ := x_R_raise hR hg
  have hf64 : 64 ≤ f := rr.2.2.2.1
  obtain ⟨r1, r2⟩ := x_R_new rr (by unfold x_del; rw [if_pos rfl]) rfl (x_cok_mono hf hc) hcell z3
  have r3 := x_R_ghost r1 (Nat.le_refl (f + 1))
  have eN : x_set (x_set (x_del N) f c) 0 (x_gh (f + 1)) = x_set (x_set N f c) 0 (x_gh (f + 1)) := by
    funext k
    unfold x_set x_del
    by_cases k0 : k = 0
    · rw [if_pos k0, if_pos k0]
    · rw [if_neg k0, if_neg k0, if_neg k0]
  rw [eN] at r3
  have hno : N f = none := by
    unfold x_del at r2
    rwa [if_neg (by omega)] at r2
  have ex := x_adn_ext ad f H.size
  have exn : x_ext nb ad (x_adn ad f H.size) := fun k hk => ex k (by omega)
  have K := kk hf64 hno p e s m args below meth co (x_adn ad f H.size) (f + 1) H1 locs ls B r3 (by omega) (fun k hk => (ex k (by omega)).trans (he k hk)) (x_S_new hS z2 z3) (x_L_ext exn (by omega) hl) (List.forall_mem_cons.mpr ⟨Nat.lt_succ_self f, fun v hv => x_vok_mono (by omega) (hvs v hv)⟩)
  have e1 : x_tr (x_adn ad f H.size) (.ref f) = .ref H.size := congrArg Value.ref (show x_adn ad f H.size f = H.size by unfold x_adn; rw [if_pos rfl])
  rw [List.map_cons, x_map_ext exn hvs, e1] at K
  exact K
theorem X_newK {idx ci n : Nat} {C : String} {T : u_T} {ty : Nat → FieldType} (hC : x_CN (x_own M) idx ci C T n ty) (hd : x_at (x_k M) pc = some (.new idx, pc', t)) (hc1 : cells + 1 ≤ Z.1.cells) (hc2 : slots + n ≤ Z.1.slots)
    (kk : x_K G M Z N (cells + 1) (slots + n) pc' L st (.inl (ci, fun k => defaultValue (ty k)))) : x_W G M Z N cells slots pc L st := by
  intro p e s m args below meth c ad nb H locs ls B hR hn he hS hl hvs
  obtain ⟨hx, hb, hml, hr, hlk, hown, hts, hW, hkp, htb, hnm, hKn, hok⟩ := id B
  obtain ⟨d1, e1⟩ := x_decn hok hd (n := 2) rfl
  subst e1
  obtain ⟨⟨hc, hin, hty, hnms⟩, hl1, hl2, hl3⟩ := hC
  have hKu := u_Kn_moved hW.alike (hKn.1 ci _ hc)
  refine W.newcK hx hb hown (hts _ hl1) (hts _ hl2) (hts _ hl3) rfl d1 hc1 hc2 hKu.2.1 rfl fun H1 kC hkC z1 z2 z3 => ?_
  exact kk p e s m args below meth c ad nb H H1 locs ls B hR hn he hS hl hvs (fun r hr j hj => x_vok_def nb _) ⟨x_n0_le hkp hS, _, hc, (u_born ty hts hin hKu hkC z1 hty).to fun k hk => (x_fits_def ad _).symm⟩ z2 z3
theorem X_newaK {atype : ArrayType} {ty : FieldType} {k : Int32} (n : Nat) (hd : x_at (x_k M) pc = some (.newarray atype, pc', t)) (hty : newarray.typeOf atype = ty) (hmem : ty ∈ x_tys) (hcl : Cond.arrayClass ty ∈ x_T) (hk : ¬ k < 0) (hn : k.toNatClampNeg = n) (hsm : n * 8 ≤ 536870912) (hc1 : cells + 1 ≤ Z.1.cells) (hc2 : slots + n ≤ Z.1.slots)
    (kk : x_K G M Z N (cells + 1) (slots + n) pc' L st (.inr (true, ty, n, fun _ => defaultValue ty))) : x_W G M Z N cells slots pc L (.int k :: st) := by
  intro p e s m args below meth c ad nb H locs ls B hR hnb he hS hl hvs
  obtain ⟨hx, hb, hml, hr, hlk, hown, hts, hW, hkp, htb, hnm, hKn, hok⟩ := id B
  obtain ⟨d1, e1⟩ := x_decn hok hd (n := 1) rfl
  subst e1
  subst hty
  have hby : n * componentBytes (newarray.typeOf atype) ≤ 536870912 := by
    have : componentBytes (newarray.typeOf atype) ≤ 8 := by cases atype <;> decide
    exact Nat.le_trans (Nat.mul_le_mul_left n this) hsm
  refine va_newaK hx hb (hts _ hcl) rfl d1 rfl hk hn hby hc1 hc2 rfl fun H1 cA z1 z2 z3 z4 z5 => ?_
  have hra : cA = G.2.2.2.2.1 (newarray.typeOf atype) := by
    have h1 := (hKn.2.1 _ hmem).2
    have h2 : G.2.1.vm.findClass ("[" ++ (newarray.typeOf atype).toString) = some (G.2.2.2.2.1 (newarray.typeOf atype)) := by cases atype <;> exact h1
    rw [hW.alike.findClass] at z5
    exact Option.some.inj (z5.symm.trans h2)
  subst hra
  exact kk p e s m args below meth c ad nb H H1 locs ls B hR hnb he hS hl (List.forall_mem_cons.mp hvs).2 (fun j hj => x_vok_def nb _) ⟨fun _ => x_n0_le hkp hS, hmem, by rw [z1]; exact congrArg some (arrV_ext _ n fun j hj => (x_fits_def ad _).symm)⟩ z2 z3
theorem X_anewK {idx : Nat} {C : String} {k : Int32} (n : Nat) (hd : x_at (x_k M) pc = some (.anewarray idx, pc', t)) (hmem : FieldType.object C ∈ x_tys) (hl1 : Cond.classLink (x_own M) idx C ∈ x_T) (hl2 : Cond.arrayOver (.object C) ∈ lw_tbl) (hk : ¬ k < 0) (hn : k.toNatClampNeg = n) (hsm : n * 4 ≤ 536870912) (hc1 : cells + 1 ≤ Z.1.cells) (hc2 : slots + n ≤ Z.1.slots)
    (kk : x_K G M Z N (cells + 1) (slots + n) pc' L st (.inr (true, .object C, n, fun _ => .null))) : x_W G M Z N cells slots pc L (.int k :: st) := by
  intro p e s m args below meth c ad nb H locs ls B hR hnb he hS hl hvs
  obtain ⟨hx, hb, hml, hr, hlk, hown, hts, hW, hkp, htb, hnm, hKn, hok⟩ := id B
  obtain ⟨d1, e1⟩ := x_decn hok hd (n := 2) rfl
  subst e1
  subst hn
  refine W.anew hx hb hown (hts _ hl1) (va_AO.use (va_AO.moved hW.alike (hKn.2.2.1.2 _ hl2))) rfl d1 rfl hk hsm hc1 hc2 fun cA kA comp z1 z2 z3 z4 => ?_
  have hra : cA = G.2.2.2.2.1 (.object C) := by
    obtain ⟨_, _, _, _, _, h1⟩ := (hKn.2.1 _ hmem).2
    rw [hW.alike.findClass] at z1
    exact Option.some.inj (z1.symm.trans h1)
  subst hra
  have y1 : (H.push { cls := G.2.2.2.2.1 (.object C), slots := Array.replicate k.toNatClampNeg .null, vm := .none })[H.size]? = some (arrV (G.2.2.2.2.1 (.object C)) k.toNatClampNeg (fun _ => .null)) := by
    rw [← arrV_new]; simp
  exact kk p e s m args below meth c ad nb H _ locs ls B hR hnb he hS hl (List.forall_mem_cons.mp hvs).2 (fun j hj => trivial) ⟨fun _ => x_n0_le hkp hS, hmem, y1⟩ (by simp) (fun q hq => by rw [Array.getElem?_push, if_neg (Nat.ne_of_lt hq)])
/-- a reference to an object of the array's own class is stored -/
theorem X_aast {a n v ci : Nat} {C : String} {T : u_T} {nf : Nat} {f V : Nat → Value} {j : Int32} (hd : x_at (x_k M) pc = some (.aastore, pc', t)) (hN : N a = some (.inr (true, .object C, n, f))) (hv : N v = some (.inl (ci, V))) (hc : vwCl[ci]? = some (C, T, nf)) (hin : vp_in j n) (kk : x_W G M Z (x_set N a (.inr (true, .object C, n, updV f j.toNatClampNeg (.ref v)))) cells slots pc' L st) : x_W G M Z N cells slots pc L (.ref v :: .int j :: .ref a :: st) := by
  intro p e s m args below meth c ad nb H locs ls B hR hn he hS hl hvs
  obtain ⟨hx, hb, hml, hr, hlk, hown, hts, hW, hkp, htb, hnm, hKn, hok⟩ := id B
  obtain ⟨d1, e1⟩ := x_decn hok hd (n := 0) rfl
  subst e1
  obtain ⟨ho, g1, g2, g3, g4, g5⟩ := x_R_arr hR hN
  obtain ⟨-, w1, w2, w3, r, w4, cellv, q1, q2, q3, q4⟩ := x_R_obj hR hv hc
  cases hc.symm.trans w4
  have K := fun H' (z1 : H'[ad a]? = some ((arrV (G.2.2.2.2.1 (.object C)) n (fun j => x_tr ad (f j))).setSlot j.toNatClampNeg (.ref (ad v)))) (z2 : H'.size = H.size) (z3 : ∀ q, q ≠ ad a → H'[q]? = H[q]?) =>
    kk p e s m args below meth c ad nb H' (locs ++ [⟨ad a, j.toNatClampNeg⟩]) ls B (x_R_put hR ho hN (x_cok_upa g2 (v := .ref v) w1) (x_cell_upa g3 g4 (v := .ref v) z1) z3) hn he (hS.put z2 z3 (g3 rfl)) hl (List.forall_mem_cons.mp (List.forall_mem_cons.mp (List.forall_mem_cons.mp hvs).2).2).2
  obtain ⟨kA, comp, a1, a2, a3, a4⟩ := (hKn.2.1 _ g4).2.moved hW.alike
  have hcls := (u_Kn_moved hW.alike (hKn.1 ci _ hc)).2
  obtain ⟨hfc, kC, hkC, hkind⟩ := id hcls
  have hcomp : comp = G.2.2.1 ci := Option.some.inj (a3.symm.trans hfc)
  subst hcomp
  exact W.aast hx hb g5 (fun q => by intro h; cases h) (fun q => by cases q) a1 a2 rfl hkC ⟨fun h => hin (Or.inl h), by rw [arrV_size]; exact Nat.not_le.mp fun q => hin (Or.inr q)⟩ q1 (fun q => by rw [q3]; intro h; cases h) (by rw [q2]; exact hkC) (by rw [q2]; exact va_assign hcls) rfl rfl d1 K
end XR2
end
section
/-! ===== the rows: ends, entries, calls ===== -/
section XR3
variable {G : XE} {M : XMI} {d mc ms : Nat} {ad0 : Nat → Nat} {nb0 : Nat} {Qn : XH → Option Value → Prop} {Qx : XH → String → Prop} {N : XH} {cells slots pc pc' t : Nat} {L : List (Option Value)}
theorem X_iret {x : Int32} (hd : x_at (x_k M) pc = some (.ireturn, pc', t)) (hr : x_ret M = some .int) (hq : Qn N (some (.int x))) (h1 : cells ≤ mc) (h2 : slots ≤ ms) : x_W G M (x_Z G d mc ms ad0 nb0 Qn Qx) N cells slots pc L [.int x] := by
  intro p e s m args below meth c ad nb H locs ls B hR hn he hS hl hvs
  obtain ⟨d1, e1⟩ := x_decn B.2.2.2.2.2.2.2.2.2.2.2.2 hd (n := 0) rfl
  exact W.widen h1 h2 (vx_ret (W.widen (Nat.le_refl _) (Nat.le_refl _) (W.iret B.1 B.2.1 (B.2.2.2.1.trans hr) (fun t ht hWt => ⟨⟨ad, nb, N, some (.int x), rfl, hn, he, by rw [ht]; exact hR, fun v hv => by cases hv; trivial, hq⟩, hS.F ht⟩) hS.2.2 d1 B.2.2.2.2.1)))
theorem X_zret {x : Int32} {ty : FieldType} (hd : x_at (x_k M) pc = some (.ireturn, pc', t)) (hr : x_ret M = some ty) (hnr : narrow ty (.int x) = .int x) (hq : Qn N (some (.int x))) (h1 : cells ≤ mc) (h2 : slots ≤ ms) : x_W G M (x_Z G d mc ms ad0 nb0 Qn Qx) N cells slots pc L [.int x] := by
  intro p e s m args below meth c ad nb H locs ls B hR hn he hS hl hvs
  obtain ⟨d1, e1⟩ := x_decn B.2.2.2.2.2.2.2.2.2.2.2.2 hd (n := 0) rfl
  exact W.widen h1 h2 (vx_ret (W.zret B.1 B.2.1 (B.2.2.2.1.trans hr) hnr (fun t ht hWt => ⟨⟨ad, nb, N, some (.int x), rfl, hn, he, by rw [ht]; exact hR, fun v hv => by cases hv; trivial, hq⟩, hS.F ht⟩) hS.2.2 d1 B.2.2.2.2.1))
theorem X_lret {x : Int64} (hd : x_at (x_k M) pc = some (.lreturn, pc', t)) (hr : x_ret M = some .long) (hq : Qn N (some (.long x))) (h1 : cells ≤ mc) (h2 : slots ≤ ms) : x_W G M (x_Z G d mc ms ad0 nb0 Qn Qx) N cells slots pc L [.long x] := by
  intro p e s m args below meth c ad nb H locs ls B hR hn he hS hl hvs
  obtain ⟨d1, e1⟩ := x_decn B.2.2.2.2.2.2.2.2.2.2.2.2 hd (n := 0) rfl
  exact W.widen h1 h2 (vx_ret (W.lret B.1 B.2.1 (B.2.2.2.1.trans hr) (fun t ht hWt => ⟨⟨ad, nb, N, some (.long x), rfl, hn, he, by rw [ht]; exact hR, fun v hv => by cases hv; trivial, hq⟩, hS.F ht⟩) hS.2.2 d1 B.2.2.2.2.1))
theorem X_vret (hd : x_at (x_k M) pc = some (.return_, pc', t)) (hr : x_ret M = none) (hq : Qn N none) (h1 : cells ≤ mc) (h2 : slots ≤ ms) : x_W G M (x_Z G d mc ms ad0 nb0 Qn Qx) N cells slots pc L [] := by
  intro p e s m args below meth c ad nb H locs ls B hR hn he hS hl hvs
  obtain ⟨d1, e1⟩ := x_decn B.2.2.2.2.2.2.2.2.2.2.2.2 hd (n := 0) rfl
  exact W.widen h1 h2 (vx_ret (W.vret B.1 B.2.1 (B.2.2.2.1.trans hr) (fun t ht hWt => ⟨⟨ad, nb, N, none, rfl, hn, he, by rw [ht]; exact hR, fun v hv => (nomatch hv), hq⟩, hS.F ht⟩) hS.2.2 d1 B.2.2.2.2.1))
theorem X_aret {v : Value} {rt : FieldType} (hd : x_at (x_k M) pc = some (.areturn, pc', t)) (hr : x_ret M = some rt) (hrt : (∃ n, rt = .object n) ∨ ∃ t, rt = .array t) (hv : v = .null ∨ ∃ a, v = .ref a) (hq : Qn N (some v)) (h1 : cells ≤ mc) (h2 : slots ≤ ms) : x_W G M (x_Z G d mc ms ad0 nb0 Qn Qx) N cells slots pc L [v] := by
  intro p e s m args below meth c ad nb H locs ls B hR hn he hS hl hvs
  obtain ⟨d1, e1⟩ := x_decn B.2.2.2.2.2.2.2.2.2.2.2.2 hd (n := 0) rfl
  have hv' : x_tr ad v = .null ∨ ∃ a, x_tr ad v = .ref a := by
    rcases hv with rfl | ⟨a, rfl⟩
    · exact Or.inl rfl
    · exact Or.inr ⟨ad a, rfl⟩
  exact W.widen h1 h2 (vx_ret (W.aret B.1 B.2.1 (B.2.2.2.1.trans hr) hrt hv' (fun t ht hWt => ⟨⟨ad, nb, N, some v, rfl, hn, he, by rw [ht]; exact hR, fun w hw => by cases hw; exact hvs v List.mem_cons_self, hq⟩, hS.F ht⟩) hS.2.2 d1 B.2.2.2.2.1))
/-! entry -/
def x_lay : List Value → List (Option Value)
  | [] => []
  | v :: vs => bif Nat.beq v.category 2 then some v :: none :: x_lay vs else some v :: x_lay vs
theorem x_lay_get (ad : Nat → Nat) : ∀ (args : List Value) (i0 i : Nat) (v : Value), (x_lay args)[i]? = some (some v) → (i0 + i, x_tr ad v) ∈ lv_args i0 (args.map (x_tr ad)) ∧ v ∈ args
  | [], i0, i, v, h => by simp [x_lay] at h
  | w :: vs, i0, i, v, h => by
    unfold x_lay at h
    rw [List.map_cons]
    unfold lv_args
    rw [x_tr_cat]
    cases hb : Nat.beq w.category 2 with
    | true =>
      rw [hb] at h
      have hc : w.category = 2 := Nat.eq_of_beq_eq_true hb
      rw [if_pos hc]
      cases i with
      | zero =>
        simp at h
        subst h
        exact ⟨List.mem_cons_self, List.mem_cons_self⟩
      | succ i =>
        cases i with
        | zero => simp at h
        | succ i =>
          simp at h
          obtain ⟨g1, g2⟩ := x_lay_get ad vs (i0 + 2) i v h
          exact ⟨List.mem_cons_of_mem _ (by rw [show i0 + (i + 1 + 1) = i0 + 2 + i by omega]; exact g1), List.mem_cons_of_mem _ g2⟩
    | false =>
      rw [hb] at h
      have hc : ¬ w.category = 2 := fun q => by rw [q] at hb; cases hb
      rw [if_neg hc]
      cases i with
      | zero =>
        simp at h
        subst h
        exact ⟨List.mem_cons_self, List.mem_cons_self⟩
      | succ i =>
        simp at h
        obtain ⟨g1, g2⟩ := x_lay_get ad vs (i0 + 1) i v h
        exact ⟨List.mem_cons_of_mem _ (by rw [show i0 + (i + 1) = i0 + 1 + i by omega]; exact g1), List.mem_cons_of_mem _ g2⟩
theorem x_lay_len (ad : Nat → Nat) : ∀ args : List Value, (lg_sl (args.map (x_tr ad))).length = (x_lay args).length
  | [] => rfl
  | w :: vs => by
    have ih := x_lay_len ad vs
    unfold x_lay
    rw [List.map_cons]
    unfold lg_sl at ih ⊢
    rw [List.flatMap_cons, x_tr_cat, List.length_append, ih]
    cases hb : Nat.beq w.category 2 with
    | true =>
      rw [if_pos (Nat.eq_of_beq_eq_true hb)]
      simp
      omega
    | false =>
      rw [if_neg (fun q => by rw [q] at hb; cases hb)]
      simp
      omega
theorem x_word {w : Cond} (h : w ∈ x_T) : (w ∈ lw_tbl) ∧ ((w.onTables && w.keeps) = true ∨ ∃ ty, w = .arrayClass ty) := ⟨(List.mem_filter.mp h).1, good_of_word (List.mem_filter.mp h).2⟩
theorem x_B_of {args : List Value} {ad : Nat → Nat} {nb : Nat} {p : Program} {e : Env} {s s₁ : State} {m : MethodId} {argsA : Array Value} {below : List Frame} {meth : Method} {c : Code} {rm : Room} (hG : x_Kn G) (hok : x_ok M) (B : BodyLoose p G.1 (x_y M) (headSpec (x_ws M) rm) (x_by M) (x_nL M) (x_ret M) e s m argsA below meth c s₁) (hml : c.maxLocals = x_nL M)
    (htb : c.exceptionTable.toList = tableOf (x_hh M)) (hP : x_Pc G ad nb args N argsA s) : x_B G M p s m argsA meth c := by
  have hts := atoms_spec (ws := x_ws M) B.pre
  refine ⟨B.exec, B.bytes, hml, B.returns, B.notSynchronized, ?_, fun w hw => hts w (List.mem_cons_of_mem _ hw), hP.2.2.1, hP.2.2.2.1, htb, (name_of_methodNamed B.named B.method).1, hG, hok.1⟩
  rw [hok.2.1]
  exact findClass_of_methodNamed B.named
theorem x_L_of {args : List Value} {ad : Nat → Nat} {nb : Nat} (hL : x_lay args ++ List.replicate (x_nL M - (x_lay args).length) none = L) (hlen : (x_lay args).length ≤ x_nL M) (hv : ∀ v ∈ args, x_vok nb v) :
    x_L ad nb (x_nL M) L ((lg_sl (args.map (x_tr ad)) ++ List.replicate (x_nL M - (lg_sl (args.map (x_tr ad))).length) Slot.unset).toArray) := by
  subst hL
  obtain ⟨h1, h2, h3⟩ := lv_entry (args.map (x_tr ad)) (n := x_nL M) (by rw [x_lay_len]; exact hlen)
  refine ⟨⟨h1, by simp; omega⟩, h2, fun i v hi => ?_⟩
  have hi' : (x_lay args)[i]? = some (some v) := by
    by_cases hlt : i < (x_lay args).length
    · rwa [List.getElem?_append_left hlt] at hi
    · rw [List.getElem?_append_right (by omega), List.getElem?_replicate] at hi
      split at hi
      · cases hi
      · cases hi
  obtain ⟨g1, g2⟩ := x_lay_get ad args 0 i v hi'
  rw [Nat.zero_add] at g1
  exact ⟨h3 _ g1, hv v g2⟩
/-- a method without handlers meets its contract if its body does -/
theorem X_M {args : List Value} (hG : x_Kn G) (hok : x_ok M) (hh : x_hh M = []) (hL : x_lay args ++ List.replicate (x_nL M - (x_lay args).length) none = L) (hlen : (x_lay args).length ≤ x_nL M)
    (body : ∀ (ad0 : Nat → Nat) (nb0 : Nat), x_W G M (x_Z G d mc ms ad0 nb0 Qn Qx) N 0 0 0 L []) : x_M G M d mc ms args N Qn Qx := by
  intro ad nb
  have hw : x_ws M = Cond.code (x_y M) (x_by M) (x_nL M) (x_ret M) :: x_T := by unfold x_ws; rw [hh]
  refine vx_ofW hok.2.2 hw ?_
  intro p e s m argsA below meth c s₁ B hml htb hP
  have hB := x_B_of hG hok B hml (by
    rw [hh]
    cases hc : c.exceptionTable.toList with
    | nil => rfl
    | cons a b => exact (htb a (by rw [hc]; exact List.mem_cons_self)).elim) hP
  obtain ⟨rfl, hv, hW, hk, hR⟩ := hP
  rw [lg_entry_eq]
  exact body ad nb p e s m _ below meth c ad nb s.heap [] _ hB hR (Nat.le_refl _) (fun _ _ => rfl) va_S.rf (x_L_of hL hlen hv) (fun v h => by cases h)
/-- .. with handlers -/
theorem X_MH {args : List Value} (hG : x_Kn G) (hok : x_ok M) {a : Nat × Nat × Nat × Nat} {l : List (Nat × Nat × Nat × Nat)} (hh : x_hh M = a :: l) (hL : x_lay args ++ List.replicate (x_nL M - (x_lay args).length) none = L) (hlen : (x_lay args).length ≤ x_nL M)
    (body : ∀ (ad0 : Nat → Nat) (nb0 : Nat), x_W G M (x_Z G d mc ms ad0 nb0 Qn Qx) N 0 0 0 L []) : x_M G M d mc ms args N Qn Qx := by
  intro ad nb
  have hw : x_ws M = Cond.codeWith (x_y M) (x_by M) (x_nL M) (x_ret M) (x_hh M) :: x_T := by unfold x_ws; rw [hh]
  refine vx_ofWH hok.2.2 hw ?_
  intro p e s m argsA below meth c s₁ B hml hP
  have hB := x_B_of hG hok B hml (vx_table (x := x_y M) B (atoms_spec (ws := x_ws M) B.pre _ (by rw [hw]; exact List.mem_cons_self))) hP
  obtain ⟨rfl, hv, hW, hk, hR⟩ := hP
  rw [lg_entry_eq]
  exact body ad nb p e s m _ below meth c ad nb s.heap [] _ hB hR (Nat.le_refl _) (fun _ _ => rfl) va_S.rf (x_L_of hL hlen hv) (fun v h => by cases h)
end XR3
end
section
/-! ===== the rows: calls ===== -/
section XR4
variable {G : XE} {M Mc : XMI} {Z : XZ} {N : XH} {cells slots pc pc' t : Nat} {L : List (Option Value)}
theorem x_blind {ad : Nat → Nat} {nb : Nat} {args : List Value} : FrameBlind (x_Pc G ad nb args N) := fun _ _ _ _ h => h
/-- something is thrown over this frame: of class E -/
def x_X (G : XE) (M : XMI) (Z : XZ) (N : XH) (cells slots pc : Nat) (L : List (Option Value)) (E : String) : Prop :=
  ∀ (p : Program) (e : Env) (s : State) (m : MethodId) (args : Array Value) (below : List Frame) (meth : Method) (c : Code) (ad : Nat → Nat) (nb : Nat) (H : Heap) (locs : List Loc) (ls : Array Slot) (rest : List Value) (q : Addr) (ce : Cell),
    x_B G M p s m args meth c → x_R G ad nb N H → Z.2.2.1 ≤ nb → x_ext Z.2.2.1 Z.2.1 ad → va_S (x_A G) s.heap H locs → x_L ad nb (x_nL M) L ls → H[q]? = some ce → ce.vm = .none → s.vm.findClass E = some ce.cls →
    vx_W p G.1 e Z.1 s m args below meth c H locs cells slots (Z.2.2.2 below args s) (F0 m pc ls rest) q
/-- behind a call: what the callee gives back, or throws -/
theorem x_back {mc ms : Nat} {p : Program} {e : Env} {s : State} {m : MethodId} {args : Array Value} {below : List Frame} {meth : Method} {c : Code} {ad : Nat → Nat} {nb : Nat} {H : Heap} {locs : List Loc} {ls : Array Slot} {st0 rest : List Value} {a : Array Value} {Qn : XH → Option Value → Prop} {Qx : XH → String → Prop}
    (hr : vx_Run p G.1 e Z.1 s m args below meth c H locs cells slots mc ms (F0 m pc ls st0) (rest.map (x_tr ad)) (x_Qc G ad nb Qn a) (x_XC G ad nb Qx) (x_A G)) (B : x_B G M p s m args meth c) (hn : Z.2.2.1 ≤ nb) (he : x_ext Z.2.2.1 Z.2.1 ad) (hS : va_S (x_A G) s.heap H locs) (hl : x_L ad nb (x_nL M) L ls) (hvs : ∀ v ∈ rest, x_vok nb v)
    (kx : ∀ (N' : XH) (E : String), Qx N' E → x_X G M Z N' (cells + mc) (slots + ms) pc L E) (kk : ∀ (N' : XH) (r : Option Value), Qn N' r → x_W G M Z N' (cells + mc) (slots + ms) (pc + 3) L (r.toList ++ rest)) :
    W p G.1 e Z.1 s m args below meth c H locs cells slots (Z.2.2.2 below args s) (F0 m pc ls st0) := by
  intro T hT X
  rcases hr T hT X with ⟨v, st₀, t, T', L1, h0, X', hL, e1, e2, ⟨⟨ad', nb', N', r, hv, hn', he', hR', hr', hq⟩, hF⟩, st⟩ | ⟨q, st₀, t, T', L1, E, ce, h0, X', hL, e1, e2, ⟨⟨ad', nb', N', hn', he', hR', hq⟩, hF⟩, hce, hcv, hcl, st⟩
  · cases hv
    obtain ⟨k1, k2, k3⟩ := vx_keep h0 e1 hS (fun _ _ h => h) (fun _ h => h) hL hF
    have K := kk N' r hq p e s m args below meth c ad' nb' T'.heap (locs ++ L1) ls B (by rw [e1]; exact hR') (Nat.le_trans hn hn') (fun k hk => (he' k (Nat.lt_of_lt_of_le hk hn)).trans (he k hk)) k3 (x_L_ext he' hn' hl) (fun v hv => by
      rcases List.mem_append.mp hv with h | h
      · cases r with
        | none => cases h
        | some w =>
          have : v = w := by simpa using h
          rw [this]
          exact hr' w rfl
      · exact x_vok_mono hn' (hvs v h))
    have e3 : (r.toList ++ rest).map (x_tr ad') = (r.map (x_tr ad')).toList ++ rest.map (x_tr ad) := by
      rw [List.map_append, x_map_ext he' hvs]
      cases r <;> rfl
    rw [e3] at K
    obtain ⟨t2, a1, b1⟩ := K T' rfl X'
    exact ⟨t2, st t2 a1, b1⟩
  · obtain ⟨k1, k2, k3⟩ := vx_keep h0 e1 hS (fun _ _ h => h) (fun _ h => h) hL hF
    obtain ⟨t2, a1, b1⟩ := kx N' E hq p e s m args below meth c ad' nb' T'.heap (locs ++ L1) ls (rest.map (x_tr ad)) q ce B (by rw [e1]; exact hR') (Nat.le_trans hn hn') (fun k hk => (he' k (Nat.lt_of_lt_of_le hk hn)).trans (he k hk)) k3 (x_L_ext he' hn' hl) (by rw [e1]; exact hce) hcv hcl T' rfl X'
    exact ⟨t2, st.trans a1, b1⟩
theorem x_back0 {mc ms : Nat} {p : Program} {e : Env} {s : State} {m : MethodId} {args : Array Value} {below : List Frame} {meth : Method} {c : Code} {ad : Nat → Nat} {nb : Nat} {H : Heap} {locs : List Loc} {ls : Array Slot} {st0 rest : List Value} {a : Array Value} {Qn : XH → Option Value → Prop}
    (hr : va_Run p G.1 e Z.1 s m args below meth c H locs cells slots mc ms (F0 m pc ls st0) (rest.map (x_tr ad)) (x_Qc G ad nb Qn a) (x_A G)) (B : x_B G M p s m args meth c) (hn : Z.2.2.1 ≤ nb) (he : x_ext Z.2.2.1 Z.2.1 ad) (hS : va_S (x_A G) s.heap H locs) (hl : x_L ad nb (x_nL M) L ls) (hvs : ∀ v ∈ rest, x_vok nb v)
    (kk : ∀ (N' : XH) (r : Option Value), Qn N' r → x_W G M Z N' (cells + mc) (slots + ms) (pc + 3) L (r.toList ++ rest)) :
    W p G.1 e Z.1 s m args below meth c H locs cells slots (Z.2.2.2 below args s) (F0 m pc ls st0) := by
  intro T hT X
  obtain ⟨v, st₀, t, T', L1, h0, X', hL, e1, e2, ⟨⟨ad', nb', N', r, hv, hn', he', hR', hr', hq⟩, hF⟩, st⟩ := hr T hT X
  cases hv
  obtain ⟨k1, k2, k3⟩ := vx_keep h0 e1 hS (fun _ _ h => h) (fun _ h => h) hL hF
  have K := kk N' r hq p e s m args below meth c ad' nb' T'.heap (locs ++ L1) ls B (by rw [e1]; exact hR') (Nat.le_trans hn hn') (fun k hk => (he' k (Nat.lt_of_lt_of_le hk hn)).trans (he k hk)) k3 (x_L_ext he' hn' hl) (fun v hv => by
    rcases List.mem_append.mp hv with h | h
    · cases r with
      | none => cases h
      | some w =>
        have : v = w := by simpa using h
        rw [this]
        exact hr' w rfl
    · exact x_vok_mono hn' (hvs v h))
  have e3 : (r.toList ++ rest).map (x_tr ad') = (r.map (x_tr ad')).toList ++ rest.map (x_tr ad) := by
    rw [List.map_append, x_map_ext he' hvs]
    cases r <;> rfl
  rw [e3] at K
  obtain ⟨t2, a1, b1⟩ := K T' rfl X'
  exact ⟨t2, st t2 a1, b1⟩
def x_noX : XH → String → Prop := fun _ _ => False
theorem x_Met {l : Launch} {y : MethodName} {ws : List Cond} {rm : Room} {Pc : Array Value → State → Prop} {Qc : Array Value → State → Outcome → State → Prop} {ad : Nat → Nat} {nb mc ms : Nat} {free : Addr → Prop} (h : vx_Met l y ws rm Pc Qc (x_XC G ad nb x_noX) mc ms free) : Met l y ws rm Pc Qc mc ms free := by
  intro p e ha hc hk s m args below hf happ hp hK
  obtain ⟨k, o, h1, h2, h3, h4⟩ := h p e ha hc hk s m args below hf happ hp hK
  refine ⟨k, o, h1, h2, h3, ?_⟩
  rcases h4 with h4 | ⟨q, -, E, ce, L1, ⟨⟨_, _, _, _, _, _, hx⟩, -⟩, -⟩
  · exact h4
  · exact hx.elim
theorem x_len_of {y : MethodName} {n : Nat} (h : (parseMethodDescriptor y.desc).map (fun d => d.parameters.length) = some n) : ∀ sig, parseMethodDescriptor y.desc = some sig → n = sig.parameters.length := fun sig hs => by
  rw [hs] at h
  exact (Option.some.inj h).symm
theorem x_pay {s : State} {args : Array Value} (hts : ∀ w ∈ x_T, w.before args s = true) {n : Nat} (hw : x_Cw Mc n) : ∀ w ∈ x_ws Mc, ∀ (a' : Array Value) (U : State), s.WarmedH U.vm → w.before a' U = true := by
  intro w h a' U hW
  have hm : w ∈ x_T := by
    rcases List.mem_cons.mp h with e | h
    · rw [e]; exact hw.1
    · exact h
  exact word_at hW (x_word hm).2 (hts w hm)
/-- room for a call: one frame more -/
def x_fit (Z : XZ) (cells slots : Nat) (Mc : XMI) (d mc ms : Nat) : Prop := d + 1 ≤ Z.1.frames ∧ 8 + (x_nL Mc + 11) + 100 * d ≤ Z.1.locals ∧ cells + mc ≤ Z.1.cells ∧ slots + ms ≤ Z.1.slots
theorem x_map_split {ad : Nat → Nat} {st As rest : List Value} {o : Nat} (h : st = As.reverse ++ .ref o :: rest) : st.map (x_tr ad) = (As.map (x_tr ad)).reverse ++ .ref (ad o) :: rest.map (x_tr ad) := by
  rw [h, List.map_append, List.map_reverse]; rfl
theorem x_cat_sum (ad : Nat → Nat) (st : List Value) : ((st.map (x_tr ad)).map fun v => v.category).sum = (st.map fun v => v.category).sum := by
  rw [List.map_map]
  congr 1
  exact List.map_congr_left fun v _ => x_tr_cat ad v
theorem X_callV {idx n d mc ms o ci nf : Nat} {T : u_T} {V : Nat → Value} {st As rest : List Value} {Qn : XH → Option Value → Prop} {Qx : XH → String → Prop} (hk : x_LV (x_own M) idx n Mc) (hM : x_M G Mc d mc ms (.ref o :: As) N Qn Qx)
    (hd : x_at (x_k M) pc = some (.invokevirtual idx, pc', t)) (hst : st = As.reverse ++ .ref o :: rest) (hN : N o = some (.inl (ci, V))) (hci : vwCl[ci]? = some ((x_y Mc).cls, T, nf)) (hn : As.length = n) (hrest : (rest.map fun v => v.category).sum ≤ 8) (hfit : x_fit Z cells slots Mc d mc ms)
    (kx : ∀ (N' : XH) (E : String), Qx N' E → x_X G M Z N' (cells + mc) (slots + ms) pc L E) (kk : ∀ (N' : XH) (r : Option Value), Qn N' r → x_W G M Z N' (cells + mc) (slots + ms) pc' L (r.toList ++ rest)) : x_W G M Z N cells slots pc L st := by
  intro p e s m args below meth c ad nb H locs ls B hR hnb he hS hl hvs
  obtain ⟨hx, hb, hml, hr, hlk, hown, hts, hW, hkp, htb, hnm, hKn, hok⟩ := id B
  obtain ⟨d1, e1⟩ := x_decn hok hd (n := 2) rfl
  subst e1
  obtain ⟨hw, hh, hk1, hk2, hk3⟩ := hk
  obtain ⟨hw1, hw2, hw3, hw4⟩ := id hw
  rw [hh] at hw1
  have hvA : ∀ v ∈ Value.ref o :: As, x_vok nb v := fun v hv => hvs v (by
    rw [hst]
    rcases List.mem_cons.mp hv with h | h
    · exact List.mem_append_right _ (by rw [h]; exact List.mem_cons_self)
    · exact List.mem_append_left _ (List.mem_reverse.mpr h))
  have hvR : ∀ v ∈ rest, x_vok nb v := fun v hv => hvs v (by rw [hst]; exact List.mem_append_right _ (List.mem_cons_of_mem _ hv))
  obtain ⟨-, g1, g2, g3, r, g4, cell, q1, q2, q3, q4⟩ := x_R_obj hR hN hci
  have hcl := (u_Kn_moved hW.alike (hKn.1 ci _ hci)).2.1
  have hrun := vx_runV (rest := rest.map (x_tr ad)) (As := As.map (x_tr ad)) (b := ad o) (C := (x_y Mc).cls) (nL := x_nL M) (g := F0 m pc ls (st.map (x_tr ad))) (cells := cells) (slots := slots) (e := e) (below := below) (meth := meth) (locs := locs) ⟨hx, hb, hml, hown, hts⟩ (hM ad nb)
    ⟨⟨rfl, rfl, hfit.1, hfit.2.1, x_pay hts hw, by unfold x_ws; rw [hh]; exact List.mem_cons_self, hts _ hw1, hts _ hw2, hw3, x_len_of hw4, hts _ hk1⟩, hts _ hk2, hts _ hk3⟩
    ⟨x_blind, ⟨cell, q1, by rw [q3]; rfl, by rw [q2]; exact hcl⟩, fun U hU hWU => ⟨rfl, hvA, hW.trans hWU, by rw [hU]; exact ⟨x_n0_le hkp hS, fun q hq => (hS.2.1 q (Nat.lt_of_lt_of_le hq hkp.1) (Nat.not_le.mpr hq)).trans (hkp.2 q hq)⟩, by rw [hU]; exact hR⟩⟩
    rfl (by rw [List.length_map]; exact hn) hl.1.1 (x_map_split hst) (lv_room (by rw [x_cat_sum]; exact hrest)) d1 ⟨hfit.2.2.1, hfit.2.2.2⟩
  exact x_back (Qn := Qn) (Qx := Qx) hrun B hnb he hS hl hvR kx kk
/-- what the callee may take as given -/
theorem x_pre {p : Program} {s : State} {m : MethodId} {args : Array Value} {meth : Method} {c : Code} {ad : Nat → Nat} {nb : Nat} {H : Heap} {locs : List Loc} {As : List Value} (B : x_B G M p s m args meth c) (hR : x_R G ad nb N H) (hS : va_S (x_A G) s.heap H locs) (hv : ∀ v ∈ As, x_vok nb v) (U : State) (hU : U.heap = H) (hWU : s.WarmedH U.vm) : x_Pc G ad nb As N (As.map (x_tr ad)).toArray U := by
  obtain ⟨hx, hb, hml, hr, hlk, hown, hts, hW, hkp, htb, hnm, hKn, hok⟩ := B
  exact ⟨rfl, hv, hW.trans hWU, by rw [hU]; exact ⟨x_n0_le hkp hS, fun q hq => (hS.2.1 q (Nat.lt_of_lt_of_le hq hkp.1) (Nat.not_le.mpr hq)).trans (hkp.2 q hq)⟩, by rw [hU]; exact hR⟩
theorem x_nestM {s : State} {args : Array Value} (hK : x_Kn G) (hW : G.2.1.WarmedH s.vm) {own host : String} {idx : Nat} {y : MethodName} (h : Cond.methodLinkNest own idx y host ∈ lw_tbl) : va_Nw (.methodLinkNest own idx y host) s := va_Nw.warmM hW (hK.2.2.1.1 _ h rfl)
theorem X_callS {idx n d mc ms : Nat} {st As rest : List Value} {Qn : XH → Option Value → Prop} {Qx : XH → String → Prop} (hk : x_LS (x_own M) idx n Mc) (hM : x_M G Mc d mc ms As N Qn Qx)
    (hd : x_at (x_k M) pc = some (.invokestatic idx, pc', t)) (hst : st = As.reverse ++ rest) (hn : As.length = n) (hrest : (rest.map fun v => v.category).sum ≤ 8) (hfit : x_fit Z cells slots Mc d mc ms)
    (kx : ∀ (N' : XH) (E : String), Qx N' E → x_X G M Z N' (cells + mc) (slots + ms) pc L E) (kk : ∀ (N' : XH) (r : Option Value), Qn N' r → x_W G M Z N' (cells + mc) (slots + ms) pc' L (r.toList ++ rest)) : x_W G M Z N cells slots pc L st := by
  intro p e s m args below meth c ad nb H locs ls B hR hnb he hS hl hvs
  obtain ⟨hx, hb, hml, hr, hlk, hown, hts, hW, hkp, htb, hnm, hKn, hok⟩ := id B
  obtain ⟨d1, e1⟩ := x_decn hok hd (n := 2) rfl
  subst e1
  subst hst
  obtain ⟨hw, hh, hk1, hk2⟩ := hk
  obtain ⟨hw1, hw2, hw3, hw4⟩ := id hw
  rw [hh] at hw1
  have hvA : ∀ v ∈ As, x_vok nb v := fun v hv => hvs v (List.mem_append_left _ (List.mem_reverse.mpr hv))
  have hvR : ∀ v ∈ rest, x_vok nb v := fun v hv => hvs v (List.mem_append_right _ hv)
  have hsp : (As.reverse ++ rest).map (x_tr ad) = (As.map (x_tr ad)).reverse ++ rest.map (x_tr ad) := by rw [List.map_append, List.map_reverse]
  have hrun := vx_runS (rest := rest.map (x_tr ad)) (As := As.map (x_tr ad)) (nL := x_nL M) (g := F0 m pc ls ((As.reverse ++ rest).map (x_tr ad))) (cells := cells) (slots := slots) (e := e) (below := below) (meth := meth) (locs := locs) ⟨hx, hb, hml, hown, hts⟩ (hM ad nb)
    ⟨⟨rfl, rfl, hfit.1, hfit.2.1, x_pay hts hw, by unfold x_ws; rw [hh]; exact List.mem_cons_self, hts _ hw1, hts _ hw2, hw3, x_len_of hw4, hts _ hk2⟩, hts _ hk1⟩
    ⟨x_blind, fun U hU hWU => x_pre B hR hS hvA U hU hWU⟩
    rfl (by rw [List.length_map]; exact hn) hl.1.1 hsp (lv_room (by rw [x_cat_sum]; exact hrest)) d1 ⟨hfit.2.2.1, hfit.2.2.2⟩
  exact x_back (Qn := Qn) (Qx := Qx) hrun B hnb he hS hl hvR kx kk
theorem X_callSX {idx n d mc ms : Nat} {st As rest : List Value} {Qn : XH → Option Value → Prop} {Qx : XH → String → Prop} (hk : x_LSX (x_own M) idx n Mc) (hM : x_M G Mc d mc ms As N Qn Qx)
    (hd : x_at (x_k M) pc = some (.invokestatic idx, pc', t)) (hst : st = As.reverse ++ rest) (hn : As.length = n) (hrest : (rest.map fun v => v.category).sum ≤ 8) (hfit : x_fit Z cells slots Mc d mc ms)
    (kx : ∀ (N' : XH) (E : String), Qx N' E → x_X G M Z N' (cells + mc) (slots + ms) pc L E) (kk : ∀ (N' : XH) (r : Option Value), Qn N' r → x_W G M Z N' (cells + mc) (slots + ms) pc' L (r.toList ++ rest)) : x_W G M Z N cells slots pc L st := by
  intro p e s m args below meth c ad nb H locs ls B hR hnb he hS hl hvs
  obtain ⟨hx, hb, hml, hr, hlk, hown, hts, hW, hkp, htb, hnm, hKn, hok⟩ := id B
  obtain ⟨d1, e1⟩ := x_decn hok hd (n := 2) rfl
  subst e1
  subst hst
  obtain ⟨hw, ⟨a0, l0, hh⟩, hk1, hk2⟩ := hk
  obtain ⟨hw1, hw2, hw3, hw4⟩ := id hw
  rw [hh] at hw1
  have hvA : ∀ v ∈ As, x_vok nb v := fun v hv => hvs v (List.mem_append_left _ (List.mem_reverse.mpr hv))
  have hvR : ∀ v ∈ rest, x_vok nb v := fun v hv => hvs v (List.mem_append_right _ hv)
  have hsp : (As.reverse ++ rest).map (x_tr ad) = (As.map (x_tr ad)).reverse ++ rest.map (x_tr ad) := by rw [List.map_append, List.map_reverse]
  have hrun := vx_runSX (hh := a0 :: l0) (rest := rest.map (x_tr ad)) (As := As.map (x_tr ad)) (nL := x_nL M) (g := F0 m pc ls ((As.reverse ++ rest).map (x_tr ad))) (cells := cells) (slots := slots) (e := e) (below := below) (meth := meth) (locs := locs) ⟨hx, hb, hml, hown, hts⟩ (hM ad nb)
    ⟨⟨rfl, rfl, hfit.1, hfit.2.1, x_pay hts hw, by unfold x_ws; rw [hh]; exact List.mem_cons_self⟩, hts _ hw1, hts _ hw2, hw3, x_len_of hw4, hts _ hk2, hts _ hk1⟩
    ⟨x_blind, fun U hU hWU => x_pre B hR hS hvA U hU hWU⟩
    rfl (by rw [List.length_map]; exact hn) hl.1.1 hsp (lv_room (by rw [x_cat_sum]; exact hrest)) d1 ⟨hfit.2.2.1, hfit.2.2.2⟩
  exact x_back (Qn := Qn) (Qx := Qx) hrun B hnb he hS hl hvR kx kk
theorem X_callSN {idx n d mc ms : Nat} {host : String} {st As rest : List Value} {Qn : XH → Option Value → Prop} (hk : x_LSN (x_own M) idx n Mc host) (hM : x_M G Mc d mc ms As N Qn x_noX)
    (hd : x_at (x_k M) pc = some (.invokestatic idx, pc', t)) (hst : st = As.reverse ++ rest) (hn : As.length = n) (hrest : (rest.map fun v => v.category).sum ≤ 8) (hfit : x_fit Z cells slots Mc d mc ms)
    (kk : ∀ (N' : XH) (r : Option Value), Qn N' r → x_W G M Z N' (cells + mc) (slots + ms) pc' L (r.toList ++ rest)) : x_W G M Z N cells slots pc L st := by
  intro p e s m args below meth c ad nb H locs ls B hR hnb he hS hl hvs
  obtain ⟨hx, hb, hml, hr, hlk, hown, hts, hW, hkp, htb, hnm, hKn, hok⟩ := id B
  obtain ⟨d1, e1⟩ := x_decn hok hd (n := 2) rfl
  subst e1
  subst hst
  obtain ⟨hw, hh, hk1, hk2⟩ := hk
  obtain ⟨hw1, hw2, hw3, hw4⟩ := id hw
  rw [hh] at hw1
  have hvA : ∀ v ∈ As, x_vok nb v := fun v hv => hvs v (List.mem_append_left _ (List.mem_reverse.mpr hv))
  have hvR : ∀ v ∈ rest, x_vok nb v := fun v hv => hvs v (List.mem_append_right _ hv)
  have hsp : (As.reverse ++ rest).map (x_tr ad) = (As.map (x_tr ad)).reverse ++ rest.map (x_tr ad) := by rw [List.map_append, List.map_reverse]
  have hrun := va_runSN (rest := rest.map (x_tr ad)) (As := As.map (x_tr ad)) (nL := x_nL M) (g := F0 m pc ls ((As.reverse ++ rest).map (x_tr ad))) (cells := cells) (slots := slots) (e := e) (below := below) (meth := meth) (locs := locs) ⟨hx, hb, hml, hown, hts⟩ (x_Met (hM ad nb))
    ⟨⟨⟨rfl, rfl, hfit.1, hfit.2.1, x_pay hts hw, by unfold x_ws; rw [hh]; exact List.mem_cons_self⟩, hts _ hw1, hts _ hw2, hw3, x_len_of hw4, va_Nw.use rfl (x_nestM (args := args) hKn hW hk2)⟩, hts _ hk1, trivial⟩
    ⟨x_blind, fun U hU hWU => x_pre B hR hS hvA U hU hWU⟩
    rfl (by rw [List.length_map]; exact hn) hl.1.1 hsp (lv_room (by rw [x_cat_sum]; exact hrest)) d1 ⟨hfit.2.2.1, hfit.2.2.2⟩
  exact x_back0 (Qn := Qn) hrun B hnb he hS hl hvR kk
theorem X_callI {idx n d mc ms o : Nat} {st As rest : List Value} {Qn : XH → Option Value → Prop} (hk : x_LI (x_own M) idx n Mc) (hM : x_M G Mc d mc ms (.ref o :: As) N Qn x_noX)
    (hd : x_at (x_k M) pc = some (.invokespecial idx, pc', t)) (hst : st = As.reverse ++ .ref o :: rest) (hn : As.length = n) (hrest : (rest.map fun v => v.category).sum ≤ 8) (hfit : x_fit Z cells slots Mc d mc ms)
    (kk : ∀ (N' : XH) (r : Option Value), Qn N' r → x_W G M Z N' (cells + mc) (slots + ms) pc' L (r.toList ++ rest)) : x_W G M Z N cells slots pc L st := by
  intro p e s m args below meth c ad nb H locs ls B hR hnb he hS hl hvs
  obtain ⟨hx, hb, hml, hr, hlk, hown, hts, hW, hkp, htb, hnm, hKn, hok⟩ := id B
  obtain ⟨d1, e1⟩ := x_decn hok hd (n := 2) rfl
  subst e1
  subst hst
  obtain ⟨hw, hh, hrt, hk1, hk2, hk3⟩ := hk
  obtain ⟨hw1, hw2, hw3, hw4⟩ := id hw
  rw [hh, hrt] at hw1
  have hvA : ∀ v ∈ Value.ref o :: As, x_vok nb v := fun v hv => hvs v (by
    rcases List.mem_cons.mp hv with h | h
    · exact List.mem_append_right _ (by rw [h]; exact List.mem_cons_self)
    · exact List.mem_append_left _ (List.mem_reverse.mpr h))
  have hvR : ∀ v ∈ rest, x_vok nb v := fun v hv => hvs v (List.mem_append_right _ (List.mem_cons_of_mem _ hv))
  have hrun := va_runI (rest := rest.map (x_tr ad)) (As := As.map (x_tr ad)) (b := ad o) (nL := x_nL M) (g := F0 m pc ls ((As.reverse ++ .ref o :: rest).map (x_tr ad))) (cells := cells) (slots := slots) (e := e) (below := below) (meth := meth) (locs := locs) ⟨hx, hb, hml, hown, hts⟩ (x_Met (hM ad nb))
    ⟨⟨rfl, rfl, hfit.1, hfit.2.1, x_pay hts hw, by unfold x_ws; rw [hh, hrt]; exact List.mem_cons_self, hts _ hw1, hts _ hw2, hw3, x_len_of hw4, hts _ hk3⟩, hk1, hts _ hk2⟩
    ⟨x_blind, fun U hU hWU => x_pre B hR hS hvA U hU hWU⟩
    rfl (by rw [List.length_map]; exact hn) hl.1.1 (x_map_split rfl) (lv_room (by rw [x_cat_sum]; exact hrest)) d1 ⟨hfit.2.2.1, hfit.2.2.2⟩
  exact x_back0 (Qn := Qn) hrun B hnb he hS hl hvR kk
theorem X_callIN {idx n d mc ms o : Nat} {host : String} {st As rest : List Value} {Qn : XH → Option Value → Prop} (hk : x_LIN (x_own M) idx n Mc host) (hM : x_M G Mc d mc ms (.ref o :: As) N Qn x_noX)
    (hd : x_at (x_k M) pc = some (.invokespecial idx, pc', t)) (hst : st = As.reverse ++ .ref o :: rest) (hn : As.length = n) (hrest : (rest.map fun v => v.category).sum ≤ 8) (hfit : x_fit Z cells slots Mc d mc ms)
    (kk : ∀ (N' : XH) (r : Option Value), Qn N' r → x_W G M Z N' (cells + mc) (slots + ms) pc' L (r.toList ++ rest)) : x_W G M Z N cells slots pc L st := by
  intro p e s m args below meth c ad nb H locs ls B hR hnb he hS hl hvs
  obtain ⟨hx, hb, hml, hr, hlk, hown, hts, hW, hkp, htb, hnm, hKn, hok⟩ := id B
  obtain ⟨d1, e1⟩ := x_decn hok hd (n := 2) rfl
  subst e1
  subst hst
  obtain ⟨hw, hh, hrt, hk1, hk2, hk3⟩ := hk
  obtain ⟨hw1, hw2, hw3, hw4⟩ := id hw
  rw [hh, hrt] at hw1
  have hvA : ∀ v ∈ Value.ref o :: As, x_vok nb v := fun v hv => hvs v (by
    rcases List.mem_cons.mp hv with h | h
    · exact List.mem_append_right _ (by rw [h]; exact List.mem_cons_self)
    · exact List.mem_append_left _ (List.mem_reverse.mpr h))
  have hvR : ∀ v ∈ rest, x_vok nb v := fun v hv => hvs v (List.mem_append_right _ (List.mem_cons_of_mem _ hv))
  have hrun := va_runIN (rest := rest.map (x_tr ad)) (As := As.map (x_tr ad)) (b := ad o) (nL := x_nL M) (g := F0 m pc ls ((As.reverse ++ .ref o :: rest).map (x_tr ad))) (cells := cells) (slots := slots) (e := e) (below := below) (meth := meth) (locs := locs) ⟨hx, hb, hml, hown, hts⟩ (x_Met (hM ad nb))
    ⟨⟨⟨rfl, rfl, hfit.1, hfit.2.1, x_pay hts hw, by unfold x_ws; rw [hh, hrt]; exact List.mem_cons_self⟩, hts _ hw1, hts _ hw2, hw3, x_len_of hw4, va_Nw.use rfl (x_nestM (args := args) hKn hW hk3)⟩, hk1, hts _ hk2⟩
    ⟨x_blind, fun U hU hWU => x_pre B hR hS hvA U hU hWU⟩
    rfl (by rw [List.length_map]; exact hn) hl.1.1 (x_map_split rfl) (lv_room (by rw [x_cat_sum]; exact hrest)) d1 ⟨hfit.2.2.1, hfit.2.2.2⟩
  exact x_back0 (Qn := Qn) hrun B hnb he hS hl hvR kk
/-- Object's constructor -/
theorem X_obj {idx o : Nat} {st : List Value} (h1 : Cond.methodLink (x_own M) idx Lib.objectInit ∈ x_T) (h2 : Cond.instanceMethod Lib.objectInit ∈ x_T) (h3 : Cond.code Lib.objectInit ⟨#[0xb1]⟩ 1 none ∈ x_T) (hd : x_at (x_k M) pc = some (.invokespecial idx, pc', t)) (hf : 1 ≤ Z.1.frames) (hlo : (st.map fun v => v.category).sum + 12 ≤ Z.1.locals) (kk : x_W G M Z N cells slots pc' L st) : x_W G M Z N cells slots pc L (.ref o :: st) := by
  intro p e s m args below meth c ad nb H locs ls B hR hnb he hS hl hvs
  obtain ⟨hx, hb, hml, hr, hlk, hown, hts, hW, hkp, htb, hnm, hKn, hok⟩ := id B
  obtain ⟨d1, e1⟩ := x_decn hok hd (n := 2) rfl
  subst e1
  have hm : (F0 m pc ls ((Value.ref o :: st).map (x_tr ad))).monitorRoom = 0 := rfl
  exact W.objInit hx hb hown (hts _ h1) (hts _ h2) (hts _ h3) rfl (hl.1.1.trans hml.symm) rfl d1 hf (by rw [hm, x_cat_sum]; omega) (kk p e s m args below meth c ad nb H locs ls B hR hnb he hS hl (List.forall_mem_cons.mp hvs).2)
theorem X_callU {idx n d mc ms o ci nf : Nat} {x : MethodName} {T : u_T} {V : Nat → Value} {st As rest : List Value} {Qn : XH → Option Value → Prop} (hk : x_LU (x_own M) idx n x Mc) (hM : x_M G Mc d mc ms (.ref o :: As) N Qn x_noX)
    (hd : x_at (x_k M) pc = some (.invokevirtual idx, pc', t)) (hst : st = As.reverse ++ .ref o :: rest) (hN : N o = some (.inl (ci, V))) (hci : vwCl[ci]? = some ((x_y Mc).cls, T, nf)) (hn : As.length = n) (hrest : (rest.map fun v => v.category).sum ≤ 8) (hfit : x_fit Z cells slots Mc d mc ms)
    (kk : ∀ (N' : XH) (r : Option Value), Qn N' r → x_W G M Z N' (cells + mc) (slots + ms) pc' L (r.toList ++ rest)) : x_W G M Z N cells slots pc L st := by
  intro p e s m args below meth c ad nb H locs ls B hR hnb he hS hl hvs
  obtain ⟨hx, hb, hml, hr, hlk, hown, hts, hW, hkp, htb, hnm, hKn, hok⟩ := id B
  obtain ⟨d1, e1⟩ := x_decn hok hd (n := 2) rfl
  subst e1
  subst hst
  obtain ⟨hw, hh, hk1, hk2, hk3, hk4, hk5, hk6, hk7⟩ := hk
  obtain ⟨hw1, hw2, hw3, hw4⟩ := id hw
  rw [hh] at hw1
  have hvA : ∀ v ∈ Value.ref o :: As, x_vok nb v := fun v hv => hvs v (by
    rcases List.mem_cons.mp hv with h | h
    · exact List.mem_append_right _ (by rw [h]; exact List.mem_cons_self)
    · exact List.mem_append_left _ (List.mem_reverse.mpr h))
  have hvR : ∀ v ∈ rest, x_vok nb v := fun v hv => hvs v (List.mem_append_right _ (List.mem_cons_of_mem _ hv))
  obtain ⟨-, g1, g2, g3, r, g4, cell, q1, q2, q3, q4⟩ := x_R_obj hR hN hci
  have hcl := (u_Kn_moved hW.alike (hKn.1 ci _ hci)).2.1
  have hdec : va_Decl s ⟨x.cls, x.name, x.desc⟩ := va_Decl.abs (va_Nw.warmD hW (hKn.2.2.1.1 _ hk5 rfl))
  have hrun := va_runU (x := x) (owner := x.cls) (rest := rest.map (x_tr ad)) (As := As.map (x_tr ad)) (b := ad o) (C := (x_y Mc).cls) (nL := x_nL M) (g := F0 m pc ls ((As.reverse ++ .ref o :: rest).map (x_tr ad))) (cells := cells) (slots := slots) (e := e) (below := below) (meth := meth) (locs := locs) ⟨hx, hb, hml, hown, hts⟩ (x_Met (hM ad nb))
    ⟨⟨rfl, rfl, hfit.1, hfit.2.1, x_pay hts hw, by unfold x_ws; rw [hh]; exact List.mem_cons_self⟩, hts _ hw1, hts _ hw2, hk6, by rw [hk7]; exact x_len_of hw4, hts _ hk1, hts _ hk2, hdec, hts _ hk3, hts _ hk4⟩
    ⟨x_blind, ⟨cell, q1, by rw [q3]; rfl, by rw [q2]; exact hcl⟩, fun U hU hWU => x_pre B hR hS hvA U hU hWU⟩
    rfl (by rw [List.length_map]; exact hn) hl.1.1 (x_map_split rfl) (lv_room (by rw [x_cat_sum]; exact hrest)) d1 ⟨hfit.2.2.1, hfit.2.2.2⟩
  exact x_back0 (Qn := Qn) hrun B hnb he hS hl hvR kk
end XR4
end
section
/-! ===== the rows: Math, constants ===== -/
def x_max (x y : Int32) : Int32 := if x < y then y else x
def x_min (x y : Int32) : Int32 := if y < x then y else x
def x_Lmax (own : String) (idx : Nat) : Prop := Cond.methodLink own idx Lib.Math.max.name ∈ x_T ∧ Cond.static Lib.Math.max.name ∈ x_T ∧ Cond.initialized "java/lang/Math" ∈ x_T ∧ Cond.code Lib.Math.max.name Lib.Math.max.code 2 (some .int) ∈ x_T
def x_Lmin (own : String) (idx : Nat) : Prop := Cond.methodLink own idx Lib.Math.min.name ∈ x_T ∧ Cond.static Lib.Math.min.name ∈ x_T ∧ Cond.initialized "java/lang/Math" ∈ x_T ∧ Cond.code Lib.Math.min.name Lib.Math.min.code 2 (some .int) ∈ x_T
section XR5
variable {G : XE} {M : XMI} {d mc ms nb0 : Nat} {ad0 : Nat → Nat} {Qn : XH → Option Value → Prop} {Qx : XH → String → Prop} {N : XH} {cells slots pc pc' t : Nat} {L : List (Option Value)} {st : List Value}
theorem X_max {idx : Nat} {x y : Int32} (hl : x_Lmax (x_own M) idx) (hd : x_at (x_k M) pc = some (.invokestatic idx, pc', t)) (hf : 1 ≤ d) (hs : (st.map fun v => v.category).sum ≤ 87) (h1 : cells ≤ mc) (h2 : slots ≤ ms) (kk : x_W G M (x_Z G d mc ms ad0 nb0 Qn Qx) N cells slots pc' L (.int (x_max x y) :: st)) : x_W G M (x_Z G d mc ms ad0 nb0 Qn Qx) N cells slots pc L (.int y :: .int x :: st) := by
  intro p e s m args below meth c ad nb H locs ls B hR hnb he hS hl0 hvs
  obtain ⟨hx, hb, hml, hr, hlk, hown, hts, hW, hkp, htb, hnm, hKn, hok⟩ := id B
  obtain ⟨d1, e1⟩ := x_decn hok hd (n := 2) rfl
  subst e1
  obtain ⟨l1, l2, l3, l4⟩ := hl
  exact va_mmax hx hb (hml.trans hl0.1.1.symm) hown (hts _ l1) (hts _ l2) (hts _ l3) (hts _ l4) hf (by show ((st.map (x_tr ad)).map fun v => v.category).sum + 13 ≤ 100 * d; rw [x_cat_sum]; omega) h1 h2 d1 (kk p e s m args below meth c ad nb H locs ls B hR hnb he hS hl0 (List.forall_mem_cons.mpr ⟨trivial, (List.forall_mem_cons.mp (List.forall_mem_cons.mp hvs).2).2⟩))
theorem X_min {idx : Nat} {x y : Int32} (hl : x_Lmin (x_own M) idx) (hd : x_at (x_k M) pc = some (.invokestatic idx, pc', t)) (hf : 1 ≤ d) (hs : (st.map fun v => v.category).sum ≤ 87) (h1 : cells ≤ mc) (h2 : slots ≤ ms) (kk : x_W G M (x_Z G d mc ms ad0 nb0 Qn Qx) N cells slots pc' L (.int (x_min x y) :: st)) : x_W G M (x_Z G d mc ms ad0 nb0 Qn Qx) N cells slots pc L (.int y :: .int x :: st) := by
  intro p e s m args below meth c ad nb H locs ls B hR hnb he hS hl0 hvs
  obtain ⟨hx, hb, hml, hr, hlk, hown, hts, hW, hkp, htb, hnm, hKn, hok⟩ := id B
  obtain ⟨d1, e1⟩ := x_decn hok hd (n := 2) rfl
  subst e1
  obtain ⟨l1, l2, l3, l4⟩ := hl
  exact va_mmin hx hb (hml.trans hl0.1.1.symm) hown (hts _ l1) (hts _ l2) (hts _ l3) (hts _ l4) hf (by show ((st.map (x_tr ad)).map fun v => v.category).sum + 13 ≤ 100 * d; rw [x_cat_sum]; omega) h1 h2 d1 (kk p e s m args below meth c ad nb H locs ls B hR hnb he hS hl0 (List.forall_mem_cons.mpr ⟨trivial, (List.forall_mem_cons.mp (List.forall_mem_cons.mp hvs).2).2⟩))
theorem X_ldc {Z : XZ} {idx : Nat} {v : Int32} (hc : Cond.constant (x_own M) idx v ∈ x_T) (hd : x_at (x_k M) pc = some (.ldc idx, pc', t)) (kk : x_W G M Z N cells slots pc' L (.int v :: st)) : x_W G M Z N cells slots pc L st := by
  intro p e s m args below meth c ad nb H locs ls B hR hnb he hS hl0 hvs
  obtain ⟨hx, hb, hml, hr, hlk, hown, hts, hW, hkp, htb, hnm, hKn, hok⟩ := id B
  obtain ⟨d1, e1⟩ := x_decn hok hd (n := 1) rfl
  subst e1
  exact lv_ldc hx hb hown (hts _ hc) d1 (kk p e s m args below meth c ad nb H locs ls B hR hnb he hS hl0 (List.forall_mem_cons.mpr ⟨trivial, hvs⟩))
theorem X_ldc2 {Z : XZ} {idx : Nat} {v : Int64} (hc : Cond.constantLong (x_own M) idx v ∈ x_T) (hd : x_at (x_k M) pc = some (.ldc2_w idx, pc', t)) (kk : x_W G M Z N cells slots pc' L (.long v :: st)) : x_W G M Z N cells slots pc L st := by
  intro p e s m args below meth c ad nb H locs ls B hR hnb he hS hl0 hvs
  obtain ⟨hx, hb, hml, hr, hlk, hown, hts, hW, hkp, htb, hnm, hKn, hok⟩ := id B
  obtain ⟨d1, e1⟩ := x_decn hok hd (n := 2) rfl
  subst e1
  exact lv_ldc2 hx hb hown (hts _ hc) d1 (kk p e s m args below meth c ad nb H locs ls B hR hnb he hS hl0 (List.forall_mem_cons.mpr ⟨trivial, hvs⟩))
end XR5
end
section
/-! links of Math, constants -/
theorem lmin_X10 : x_Lmin RX10 297 := ⟨x_in 470 (by decide +kernel) rfl, x_in 457 (by decide +kernel) rfl, x_in 126 (by decide +kernel) rfl, x_in 458 (by decide +kernel) rfl⟩
theorem lmin_X3 : x_Lmin RX3 82 := ⟨x_in 456 (by decide +kernel) rfl, x_in 457 (by decide +kernel) rfl, x_in 126 (by decide +kernel) rfl, x_in 458 (by decide +kernel) rfl⟩
theorem lmax_X3 : x_Lmax RX3 87 := ⟨x_in 459 (by decide +kernel) rfl, x_in 460 (by decide +kernel) rfl, x_in 126 (by decide +kernel) rfl, x_in 461 (by decide +kernel) rfl⟩
theorem lmin_X7 : x_Lmin RX7 48 := ⟨x_in 1105 (by decide +kernel) rfl, x_in 457 (by decide +kernel) rfl, x_in 126 (by decide +kernel) rfl, x_in 458 (by decide +kernel) rfl⟩
theorem lmax_X7 : x_Lmax RX7 53 := ⟨x_in 1106 (by decide +kernel) rfl, x_in 460 (by decide +kernel) rfl, x_in 126 (by decide +kernel) rfl, x_in 461 (by decide +kernel) rfl⟩
theorem lmin_X8 : x_Lmin RX8 68 := ⟨x_in 734 (by decide +kernel) rfl, x_in 457 (by decide +kernel) rfl, x_in 126 (by decide +kernel) rfl, x_in 458 (by decide +kernel) rfl⟩
theorem lmax_X9 : x_Lmax RX9 46 := ⟨x_in 1212 (by decide +kernel) rfl, x_in 460 (by decide +kernel) rfl, x_in 126 (by decide +kernel) rfl, x_in 461 (by decide +kernel) rfl⟩
theorem lmin_X9 : x_Lmin RX9 52 := ⟨x_in 1213 (by decide +kernel) rfl, x_in 457 (by decide +kernel) rfl, x_in 126 (by decide +kernel) rfl, x_in 458 (by decide +kernel) rfl⟩
theorem lmin_X11 : x_Lmin RX11 110 := ⟨x_in 1454 (by decide +kernel) rfl, x_in 457 (by decide +kernel) rfl, x_in 126 (by decide +kernel) rfl, x_in 458 (by decide +kernel) rfl⟩
theorem lmax_X11 : x_Lmax RX11 253 := ⟨x_in 1528 (by decide +kernel) rfl, x_in 460 (by decide +kernel) rfl, x_in 126 (by decide +kernel) rfl, x_in 461 (by decide +kernel) rfl⟩
theorem k_X10_266 : Cond.constantLong RX10 266 (31) ∈ x_T := x_in 479 (by decide +kernel) rfl
theorem k_X10_324 : Cond.constantLong RX10 324 (32) ∈ x_T := x_in 666 (by decide +kernel) rfl
theorem k_X10_326 : Cond.constantLong RX10 326 (97) ∈ x_T := x_in 667 (by decide +kernel) rfl
theorem k_J8_200 : Cond.constant RJ8 200 (2147483639) ∈ x_T := x_in 905 (by decide +kernel) rfl
theorem k_X1_38 : Cond.constantLong RX1 38 (-1) ∈ x_T := x_in 1188 (by decide +kernel) rfl
theorem k_J13_314 : Cond.constantLong RJ13 314 (6148914691236517205) ∈ x_T := x_in 1205 (by decide +kernel) rfl
theorem k_J13_316 : Cond.constantLong RJ13 316 (3689348814741910323) ∈ x_T := x_in 1206 (by decide +kernel) rfl
theorem k_J13_318 : Cond.constantLong RJ13 318 (1085102592571150095) ∈ x_T := x_in 1207 (by decide +kernel) rfl
theorem k_X11_109 : Cond.constant RX11 109 (1000000) ∈ x_T := x_in 1453 (by decide +kernel) rfl
theorem k_X11_292 : Cond.constantLong RX11 292 (8) ∈ x_T := x_in 1537 (by decide +kernel) rfl
theorem k_X11_297 : Cond.constantLong RX11 297 (4) ∈ x_T := x_in 1546 (by decide +kernel) rfl
theorem k_X11_305 : Cond.constantLong RX11 305 (3) ∈ x_T := x_in 1575 (by decide +kernel) rfl
theorem k_X11_310 : Cond.constantLong RX11 310 (5) ∈ x_T := x_in 1580 (by decide +kernel) rfl
theorem k_X11_315 : Cond.constantLong RX11 315 (-1) ∈ x_T := x_in 1605 (by decide +kernel) rfl
theorem k_X11_357 : Cond.constantLong RX11 357 (31) ∈ x_T := x_in 1725 (by decide +kernel) rfl
end
section
/-! ===== the reference: its cells ===== -/
def mO (I : Nat → Int32) (T : Int64) : Nat → Value := fun k => match k with
  | 1 => .ref 276
  | 2 => .ref 277
  | 5 => .ref 278
  | 17 => .ref 279
  | 18 => .ref 280
  | 19 => .long T
  | k => .int (I k)
/-- the reference over the other cells B: its numbers I, its total, its nine rows S, what is read, the text, the values, the pile -/
def mset (B : XH) (I : Nat → Int32) (T : Int64) (S : Nat → Nat → Int32) (rd tx gv pl : Nat → Int32) : XH := fun k =>
  bif Nat.beq k 275 then some (.inl (11, mO I T)) else
  bif Nat.beq k 276 then some (.inr (true, .int, 21600, fun j => .int (S (j / 2400) (j % 2400)))) else
  bif Nat.beq k 277 then some (.inr (true, .int, 2400, fun j => .int (rd j))) else
  bif Nat.beq k 278 then some (.inr (true, .int, 800, fun j => .int (tx j))) else
  bif Nat.beq k 279 then some (.inr (true, .int, 4, fun j => .int (gv j))) else
  bif Nat.beq k 280 then some (.inr (true, .boolean, 400, fun j => .int (pl j))) else B k
def m_int (k : Nat) : Bool := !(Nat.beq k 1 || Nat.beq k 2 || Nat.beq k 5 || Nat.beq k 17 || Nat.beq k 18 || Nat.beq k 19)
theorem mO_int {I : Nat → Int32} {T : Int64} {k : Nat} (h : m_int k = true) : mO I T k = .int (I k) := by
  unfold mO
  split <;> first | rfl | (exact absurd h (by decide))
theorem updI_ne {I : Nat → Int32} {k j : Nat} {x : Int32} (h : j ≠ k) : upd I k x j = I j := by unfold upd; rw [if_neg h]
theorem updI_eq {I : Nat → Int32} {k : Nat} {x : Int32} : upd I k x k = x := by unfold upd; rw [if_pos rfl]
def updS (S : Nat → Nat → Int32) (w k : Nat) (x : Int32) : Nat → Nat → Int32 := fun i => if i = w then upd (S w) k x else S i
theorem beq_ne {j k : Nat} (h : ¬ j = k) : Nat.beq j k = false := by
  cases e : Nat.beq j k with
  | true => exact absurd (Nat.eq_of_beq_eq_true e) h
  | false => rfl
section MODEL
variable {B : XH} {I : Nat → Int32} {T : Int64} {S : Nat → Nat → Int32} {rd tx gv pl : Nat → Int32}
theorem m_put {k : Nat} {x : Int32} (h : m_int k = true) : x_set (mset B I T S rd tx gv pl) 275 (.inl (11, updV (mO I T) k (.int x))) = mset B (upd I k x) T S rd tx gv pl := by
  have e : updV (mO I T) k (.int x) = mO (upd I k x) T := by
    funext j
    unfold updV
    by_cases hj : j = k
    · rw [if_pos hj, hj, mO_int h, updI_eq]
    · rw [if_neg hj]
      unfold mO
      split <;> first | rfl | rw [updI_ne hj]
  rw [e]
  funext j
  unfold x_set
  by_cases hj : j = 275
  · rw [if_pos hj, hj]; rfl
  · rw [if_neg hj]
    unfold mset
    rw [beq_ne hj]
    rfl
theorem m_putT {x : Int64} : x_set (mset B I T S rd tx gv pl) 275 (.inl (11, updV (mO I T) 19 (.long x))) = mset B I x S rd tx gv pl := by
  have e : updV (mO I T) 19 (.long x) = mO I x := by
    funext j
    unfold updV
    by_cases hj : j = 19
    · rw [if_pos hj, hj]; rfl
    · rw [if_neg hj]
      unfold mO
      split <;> first | rfl | exact absurd rfl hj
  rw [e]
  funext j
  unfold x_set
  by_cases hj : j = 275
  · rw [if_pos hj, hj]; rfl
  · rw [if_neg hj]
    unfold mset
    rw [beq_ne hj]
    rfl
theorem updV_int {f : Nat → Int32} {k : Nat} {x : Int32} : updV (fun j => Value.int (f j)) k (.int x) = fun j => .int (upd f k x j) := by
  funext j
  unfold updV upd
  by_cases hj : j = k
  · rw [if_pos hj, if_pos hj]
  · rw [if_neg hj, if_neg hj]
theorem m_putS {w k : Nat} {x : Int32} (hk : k < 2400) : x_set (mset B I T S rd tx gv pl) 276 (.inr (true, .int, 21600, updV (fun j => .int (S (j / 2400) (j % 2400))) (2400 * w + k) (.int x))) = mset B I T (updS S w k x) rd tx gv pl := by
  have e : updV (fun j => Value.int (S (j / 2400) (j % 2400))) (2400 * w + k) (.int x) = fun j => .int (updS S w k x (j / 2400) (j % 2400)) := by
    funext j
    unfold updV updS
    by_cases hj : j = 2400 * w + k
    · have h1 : j / 2400 = w := by omega
      have h2 : j % 2400 = k := by omega
      rw [if_pos hj, h1, h2, if_pos rfl, updI_eq]
    · rw [if_neg hj]
      by_cases h1 : j / 2400 = w
      · show Value.int (S (j / 2400) (j % 2400)) = _
        rw [if_pos h1, h1, updI_ne (by omega)]
      · rw [if_neg h1]
  rw [e]
  funext j
  unfold x_set
  by_cases hj : j = 276
  · rw [if_pos hj, hj]; rfl
  · rw [if_neg hj]
    unfold mset
    rw [beq_ne hj]
    rfl
theorem m_putR {k : Nat} {x : Int32} : x_set (mset B I T S rd tx gv pl) 277 (.inr (true, .int, 2400, updV (fun j => .int (rd j)) k (.int x))) = mset B I T S (upd rd k x) tx gv pl := by
  rw [updV_int]
  funext j
  unfold x_set
  by_cases hj : j = 277
  · rw [if_pos hj, hj]; rfl
  · rw [if_neg hj]
    unfold mset
    rw [beq_ne hj]
    rfl
theorem m_putX {k : Nat} {x : Int32} : x_set (mset B I T S rd tx gv pl) 278 (.inr (true, .int, 800, updV (fun j => .int (tx j)) k (.int x))) = mset B I T S rd (upd tx k x) gv pl := by
  rw [updV_int]
  funext j
  unfold x_set
  by_cases hj : j = 278
  · rw [if_pos hj, hj]; rfl
  · rw [if_neg hj]
    unfold mset
    rw [beq_ne hj]
    rfl
theorem m_putG {k : Nat} {x : Int32} : x_set (mset B I T S rd tx gv pl) 279 (.inr (true, .int, 4, updV (fun j => .int (gv j)) k (.int x))) = mset B I T S rd tx (upd gv k x) pl := by
  rw [updV_int]
  funext j
  unfold x_set
  by_cases hj : j = 279
  · rw [if_pos hj, hj]; rfl
  · rw [if_neg hj]
    unfold mset
    rw [beq_ne hj]
    rfl
theorem m_putP {k : Nat} {x : Int32} : x_set (mset B I T S rd tx gv pl) 280 (.inr (true, .boolean, 400, updV (fun j => .int (pl j)) k (.int x))) = mset B I T S rd tx gv (upd pl k x) := by
  rw [updV_int]
  funext j
  unfold x_set
  by_cases hj : j = 280
  · rw [if_pos hj, hj]; rfl
  · rw [if_neg hj]
    unfold mset
    rw [beq_ne hj]
    rfl
variable {G : XE} {M : XMI} {Z : XZ} {cells slots pc pc' t : Nat} {L : List (Option Value)} {st : List Value}
theorem X_mput {idx k : Nat} {x : Int32} (hF : x_FL (x_own M) idx 11 k .int false) (hk : m_int k = true) (hd : x_at (x_k M) pc = some (.putfield idx, pc', t)) (kk : x_W G M Z (mset B (upd I k x) T S rd tx gv pl) cells slots pc' L st) : x_W G M Z (mset B I T S rd tx gv pl) cells slots pc L (.int x :: .ref 275 :: st) :=
  X_put hF hd rfl ⟨rfl, rfl⟩ (by rw [m_put hk]; exact kk)
theorem X_mputT {idx : Nat} {x : Int64} (hF : x_FL (x_own M) idx 11 19 .long false) (hd : x_at (x_k M) pc = some (.putfield idx, pc', t)) (kk : x_W G M Z (mset B I x S rd tx gv pl) cells slots pc' L st) : x_W G M Z (mset B I T S rd tx gv pl) cells slots pc L (.long x :: .ref 275 :: st) :=
  X_put hF hd rfl ⟨rfl, rfl⟩ (by rw [m_putT]; exact kk)
/-- an entry of the rows -/
theorem X_mSld {j : Int32} (w k : Nat) (hj : j = nI (2400 * w + k)) (hw : w < 9) (hk : k < 2400) (hd : x_at (x_k M) pc = some (.iaload, pc', t)) (kk : x_W G M Z (mset B I T S rd tx gv pl) cells slots pc' L (.int (S w k) :: st)) : x_W G M Z (mset B I T S rd tx gv pl) cells slots pc L (.int j :: .ref 276 :: st) := by
  have e : j.toNatClampNeg = 2400 * w + k := by rw [hj]; exact nI_clamp (by omega)
  refine X_iald hd rfl (by rw [hj]; exact vp_in_nI (by omega) (by omega)) (v := .int (S w k)) ?_ kk
  show Value.int (S (j.toNatClampNeg / 2400) (j.toNatClampNeg % 2400)) = _
  rw [e, show (2400 * w + k) / 2400 = w by omega, show (2400 * w + k) % 2400 = k by omega]
theorem X_mSst {j x : Int32} (w k : Nat) (hj : j = nI (2400 * w + k)) (hw : w < 9) (hk : k < 2400) (hd : x_at (x_k M) pc = some (.iastore, pc', t)) (kk : x_W G M Z (mset B I T (updS S w k x) rd tx gv pl) cells slots pc' L st) : x_W G M Z (mset B I T S rd tx gv pl) cells slots pc L (.int x :: .int j :: .ref 276 :: st) := by
  have e : j.toNatClampNeg = 2400 * w + k := by rw [hj]; exact nI_clamp (by omega)
  refine X_iast hd rfl (by rw [hj]; exact vp_in_nI (by omega) (by omega)) ?_
  rw [e, m_putS hk]
  exact kk
/-- an array of the reference is read at a known place -/
theorem X_ildn {a n : Nat} {mu : Bool} {f : Nat → Int32} {N : XH} {j : Int32} (k : Nat) (hj : j = nI k) (hk : k < n) (hn : n < 2 ^ 31) (hd : x_at (x_k M) pc = some (.iaload, pc', t)) (hN : N a = some (.inr (mu, .int, n, fun j => .int (f j)))) (kk : x_W G M Z N cells slots pc' L (.int (f k) :: st)) : x_W G M Z N cells slots pc L (.int j :: .ref a :: st) := by
  have e : j.toNatClampNeg = k := by rw [hj]; exact nI_clamp (by omega)
  refine X_iald hd hN (by rw [hj]; exact vp_in_nI hk hn) (v := .int (f k)) ?_ kk
  rw [e]
theorem X_mRst {j x : Int32} (k : Nat) (hj : j = nI k) (hk : k < 2400) (hd : x_at (x_k M) pc = some (.iastore, pc', t)) (kk : x_W G M Z (mset B I T S (upd rd k x) tx gv pl) cells slots pc' L st) : x_W G M Z (mset B I T S rd tx gv pl) cells slots pc L (.int x :: .int j :: .ref 277 :: st) := by
  have e : j.toNatClampNeg = k := by rw [hj]; exact nI_clamp (by omega)
  refine X_iast hd rfl (by rw [hj]; exact vp_in_nI hk (by omega)) ?_
  rw [e, m_putR]
  exact kk
theorem X_mXst {j x : Int32} (k : Nat) (hj : j = nI k) (hk : k < 800) (hd : x_at (x_k M) pc = some (.iastore, pc', t)) (kk : x_W G M Z (mset B I T S rd (upd tx k x) gv pl) cells slots pc' L st) : x_W G M Z (mset B I T S rd tx gv pl) cells slots pc L (.int x :: .int j :: .ref 278 :: st) := by
  have e : j.toNatClampNeg = k := by rw [hj]; exact nI_clamp (by omega)
  refine X_iast hd rfl (by rw [hj]; exact vp_in_nI hk (by omega)) ?_
  rw [e, m_putX]
  exact kk
theorem X_mGst {j x : Int32} (k : Nat) (hj : j = nI k) (hk : k < 4) (hd : x_at (x_k M) pc = some (.iastore, pc', t)) (kk : x_W G M Z (mset B I T S rd tx (upd gv k x) pl) cells slots pc' L st) : x_W G M Z (mset B I T S rd tx gv pl) cells slots pc L (.int x :: .int j :: .ref 279 :: st) := by
  have e : j.toNatClampNeg = k := by rw [hj]; exact nI_clamp (by omega)
  refine X_iast hd rfl (by rw [hj]; exact vp_in_nI hk (by omega)) ?_
  rw [e, m_putG]
  exact kk
theorem X_mPst {j x : Int32} (k : Nat) (hj : j = nI k) (hk : k < 400) (hx : x = 0 ∨ x = 1) (hd : x_at (x_k M) pc = some (.bastore, pc', t)) (kk : x_W G M Z (mset B I T S rd tx gv (upd pl k x)) cells slots pc' L st) : x_W G M Z (mset B I T S rd tx gv pl) cells slots pc L (.int x :: .int j :: .ref 280 :: st) := by
  have e : j.toNatClampNeg = k := by rw [hj]; exact nI_clamp (by omega)
  refine X_zast hd rfl (by rw [hj]; exact vp_in_nI hk (by omega)) (by rcases hx with rfl | rfl <;> rfl) ?_
  rw [e, m_putP]
  exact kk
end MODEL
/-- what a call gives back over the cells N1 -/
def x_Ret (N1 : XH) (v : Value) : XH → Option Value → Prop := fun N r => N = N1 ∧ r = some v
def x_RetV (N1 : XH) : XH → Option Value → Prop := fun N r => N = N1 ∧ r = none
end
section
/-! ===== the reference: calls within it ===== -/
theorem x_fit_of {G : XE} {d mc ms d' mc' ms' cells slots nb0 : Nat} {ad0 : Nat → Nat} {Qn : XH → Option Value → Prop} {Qx : XH → String → Prop} {Mc : XMI} (h : x_nL Mc ≤ 81) (hd : d' + 1 ≤ d) (h1 : cells + mc' ≤ mc) (h2 : slots + ms' ≤ ms) : x_fit (x_Z G d mc ms ad0 nb0 Qn Qx) cells slots Mc d' mc' ms' := by
  refine ⟨hd, ?_, h1, h2⟩
  show 8 + (x_nL Mc + 11) + 100 * d' ≤ 100 * d
  omega
section MCALL
variable {G : XE} {M Mc : XMI} {d mc ms nb0 : Nat} {ad0 : Nat → Nat} {Qn : XH → Option Value → Prop} {Qx : XH → String → Prop} {B N N1 : XH} {I : Nat → Int32} {T : Int64} {S : Nat → Nat → Int32} {rd tx gv pl : Nat → Int32} {cells slots pc pc' t : Nat} {L : List (Option Value)}
/-- a call whose end is known: a value -/
theorem X_mcall {idx n d' mc' ms' : Nat} {st As rest : List Value} {v : Value} (hk : x_LV (x_own M) idx n Mc) (hM : x_M G Mc d' mc' ms' (.ref 275 :: As) (mset B I T S rd tx gv pl) (x_Ret N1 v) x_noX)
    (hd : x_at (x_k M) pc = some (.invokevirtual idx, pc', t)) (hst : st = As.reverse ++ .ref 275 :: rest) (hcl : (x_y Mc).cls = RX11) (hn : As.length = n) (hrest : (rest.map fun v => v.category).sum ≤ 8) (hL : x_nL Mc ≤ 81) (hdd : d' + 1 ≤ d) (h1 : cells + mc' ≤ mc) (h2 : slots + ms' ≤ ms)
    (kk : x_W G M (x_Z G d mc ms ad0 nb0 Qn Qx) N1 (cells + mc') (slots + ms') pc' L (v :: rest)) : x_W G M (x_Z G d mc ms ad0 nb0 Qn Qx) (mset B I T S rd tx gv pl) cells slots pc L st :=
  X_callV (T := TX11) (nf := 20) hk hM hd hst rfl (by rw [hcl]; rfl) hn hrest (x_fit_of hL hdd h1 h2) (fun _ _ h => h.elim) (fun N' r h => by obtain ⟨rfl, rfl⟩ := h; exact kk)
theorem X_mcallv {idx n d' mc' ms' : Nat} {st As rest : List Value} (hk : x_LV (x_own M) idx n Mc) (hM : x_M G Mc d' mc' ms' (.ref 275 :: As) (mset B I T S rd tx gv pl) (x_RetV N1) x_noX)
    (hd : x_at (x_k M) pc = some (.invokevirtual idx, pc', t)) (hst : st = As.reverse ++ .ref 275 :: rest) (hcl : (x_y Mc).cls = RX11) (hn : As.length = n) (hrest : (rest.map fun v => v.category).sum ≤ 8) (hL : x_nL Mc ≤ 81) (hdd : d' + 1 ≤ d) (h1 : cells + mc' ≤ mc) (h2 : slots + ms' ≤ ms)
    (kk : x_W G M (x_Z G d mc ms ad0 nb0 Qn Qx) N1 (cells + mc') (slots + ms') pc' L rest) : x_W G M (x_Z G d mc ms ad0 nb0 Qn Qx) (mset B I T S rd tx gv pl) cells slots pc L st :=
  X_callV (T := TX11) (nf := 20) hk hM hd hst rfl (by rw [hcl]; rfl) hn hrest (x_fit_of hL hdd h1 h2) (fun _ _ h => h.elim) (fun N' r h => by obtain ⟨rfl, rfl⟩ := h; exact kk)
/-- a static call whose end is known -/
theorem X_scall {idx n d' mc' ms' : Nat} {st As rest : List Value} {v : Value} (hk : x_LS (x_own M) idx n Mc) (hM : x_M G Mc d' mc' ms' As N (x_Ret N1 v) x_noX)
    (hd : x_at (x_k M) pc = some (.invokestatic idx, pc', t)) (hst : st = As.reverse ++ rest) (hn : As.length = n) (hrest : (rest.map fun v => v.category).sum ≤ 8) (hL : x_nL Mc ≤ 81) (hdd : d' + 1 ≤ d) (h1 : cells + mc' ≤ mc) (h2 : slots + ms' ≤ ms)
    (kk : x_W G M (x_Z G d mc ms ad0 nb0 Qn Qx) N1 (cells + mc') (slots + ms') pc' L (v :: rest)) : x_W G M (x_Z G d mc ms ad0 nb0 Qn Qx) N cells slots pc L st :=
  X_callS hk hM hd hst hn hrest (x_fit_of hL hdd h1 h2) (fun _ _ h => h.elim) (fun N' r h => by obtain ⟨rfl, rfl⟩ := h; exact kk)
end MCALL
def bI (p : Prop) [Decidable p] : Int32 := if p then 1 else 0
theorem bI_t {p : Prop} [Decidable p] (h : p) : bI p = 1 := if_pos h
theorem bI_f {p : Prop} [Decidable p] (h : ¬ p) : bI p = 0 := if_neg h
theorem bI_01 (p : Prop) [Decidable p] : bI p = 0 ∨ bI p = 1 := by
  unfold bI
  by_cases h : p
  · rw [if_pos h]; exact Or.inr rfl
  · rw [if_neg h]; exact Or.inl rfl
theorem bI_nar (p : Prop) [Decidable p] : narrow .boolean (.int (bI p)) = .int (bI p) := by
  rcases bI_01 p with h | h <;> rw [h] <;> rfl
theorem bI_ne {p : Prop} [Decidable p] : ¬ bI p = 0 ↔ p := by
  unfold bI
  by_cases h : p
  · rw [if_pos h]; simp [h]
  · rw [if_neg h]; simp [h]
theorem m_ix {I : Nat → Int32} {w k : Nat} {x : Int32} (h : I 3 = nI w) (hx : x = nI k) : (2400 : Int32) * I 3 + x = nI (2400 * w + k) := by
  rw [h, hx]
  exact (congrArg (· + nI k) (pk_mul 2400 w)).trans (nI_add _ _)
theorem lg_lt0 {x y : Int64} : lg_cmp x y < 0 ↔ x < y := by
  unfold lg_cmp
  by_cases h1 : x > y
  · rw [if_pos h1]
    constructor
    · intro h; exact absurd h (by decide)
    · intro h; exact absurd h (lg_lt_not h1)
  · rw [if_neg h1]
    by_cases h2 : x = y
    · rw [if_pos h2]
      constructor
      · intro h; exact absurd h (by decide)
      · intro h
        have h3 := Int64.lt_iff_toInt_lt.mp h
        rw [h2] at h3
        omega
    · rw [if_neg h2]
      constructor
      · intro _
        have h3 : ¬ y.toInt < x.toInt := fun q => h1 (Int64.lt_iff_toInt_lt.mpr q)
        have h4 : x.toInt ≠ y.toInt := fun q => h2 (Int64.toInt_inj.mp q)
        exact Int64.lt_iff_toInt_lt.mpr (by omega)
      · intro _; decide
theorem lg_gt0 {x y : Int64} : 0 < lg_cmp x y ↔ y < x := by
  unfold lg_cmp
  by_cases h1 : x > y
  · rw [if_pos h1]
    exact ⟨fun _ => h1, fun _ => by decide⟩
  · rw [if_neg h1]
    by_cases h2 : x = y
    · rw [if_pos h2]
      constructor
      · intro h; exact absurd h (by decide)
      · intro h; exact absurd h h1
    · rw [if_neg h2]
      constructor
      · intro h; exact absurd h (by decide)
      · intro h; exact absurd h h1
theorem i2l_le {x y : Int32} : x.toInt64 ≤ y.toInt64 ↔ x ≤ y := by
  rw [Int64.le_iff_toInt_le, Int32.toInt_toInt64, Int32.toInt_toInt64, Int32.le_iff_toInt_le]
theorem i2l_lt {x y : Int32} : x.toInt64 < y.toInt64 ↔ x < y := by
  rw [Int64.lt_iff_toInt_lt, Int32.toInt_toInt64, Int32.toInt_toInt64, Int32.lt_iff_toInt_lt]
end
section
/-! ===== the reference: its small methods ===== -/
theorem c_get {G : XE} (hG : x_Kn G) {B : XH} {I : Nat → Int32} {T : Int64} {S : Nat → Nat → Int32} {rd tx gv pl : Nat → Int32} (d : Nat) (w : Nat) (hw : I 3 = nI w) (hw9 : w < 9) (k : Nat) (hk : k < 2400) {x : Int32} (hx : x = nI k) : x_M G mX11_get d 0 0 [.ref 275, .int x] (mset B I T S rd tx gv pl) (x_Ret (mset B I T S rd tx gv pl) (.int (S w k))) x_noX := by
  refine X_M hG okX11_get rfl (L := [some (.ref 275), some (.int x)]) rfl (Nat.le_of_ble_eq_true rfl) (fun ad0 nb0 => ?_)
  refine X_ld rfl rfl rfl rfl ?_
  refine X_get f_X11_7 rfl rfl rfl ?_
  refine X_push (v := .int 2400) rfl (by decide +kernel) ?_
  refine X_ld rfl rfl rfl rfl ?_
  refine X_get f_X11_40 rfl rfl rfl ?_
  refine X_bin rfl rfl ?_
  refine X_ld rfl rfl rfl rfl ?_
  refine X_bin rfl rfl ?_
  refine X_mSld w k (m_ix hw hx) hw9 hk rfl ?_
  exact X_iret rfl rfl ⟨rfl, rfl⟩ (Nat.le_of_ble_eq_true rfl) (Nat.le_of_ble_eq_true rfl)
theorem c_put {G : XE} (hG : x_Kn G) {B : XH} {I : Nat → Int32} {T : Int64} {S : Nat → Nat → Int32} {rd tx gv pl : Nat → Int32} (d : Nat) (w : Nat) (hw : I 3 = nI w) (hw9 : w < 9) (k : Nat) (hk : k < 2400) {x v : Int32} (hx : x = nI k) : x_M G mX11_put d 0 0 [.ref 275, .int x, .int v] (mset B I T S rd tx gv pl) (x_RetV (mset B I T (updS S w k v) rd tx gv pl)) x_noX := by
  refine X_M hG okX11_put rfl (L := [some (.ref 275), some (.int x), some (.int v)]) rfl (Nat.le_of_ble_eq_true rfl) (fun ad0 nb0 => ?_)
  refine X_ld rfl rfl rfl rfl ?_
  refine X_get f_X11_7 rfl rfl rfl ?_
  refine X_push (v := .int 2400) rfl (by decide +kernel) ?_
  refine X_ld rfl rfl rfl rfl ?_
  refine X_get f_X11_40 rfl rfl rfl ?_
  refine X_bin rfl rfl ?_
  refine X_ld rfl rfl rfl rfl ?_
  refine X_bin rfl rfl ?_
  refine X_ld rfl rfl rfl rfl ?_
  refine X_mSst w k (m_ix hw hx) hw9 hk rfl ?_
  exact X_vret rfl rfl ⟨rfl, rfl⟩ (Nat.le_of_ble_eq_true rfl) (Nat.le_of_ble_eq_true rfl)
theorem c_add {G : XE} (hG : x_Kn G) {B : XH} {I : Nat → Int32} {T : Int64} {S : Nat → Nat → Int32} {rd tx gv pl : Nat → Int32} (d : Nat) (w : Nat) (hw : I 3 = nI w) (hw9 : w < 9) (k : Nat) (hk : k < 2400) {x v : Int32} (hx : x = nI k) : x_M G mX11_add d 0 0 [.ref 275, .int x, .int v] (mset B I T S rd tx gv pl) (x_RetV (mset B I T (updS S w k (S w k + v)) rd tx gv pl)) x_noX := by
  refine X_M hG okX11_add rfl (L := [some (.ref 275), some (.int x), some (.int v)]) rfl (Nat.le_of_ble_eq_true rfl) (fun ad0 nb0 => ?_)
  refine X_ld rfl rfl rfl rfl ?_
  refine X_get f_X11_7 rfl rfl rfl ?_
  refine X_push (v := .int 2400) rfl (by decide +kernel) ?_
  refine X_ld rfl rfl rfl rfl ?_
  refine X_get f_X11_40 rfl rfl rfl ?_
  refine X_bin rfl rfl ?_
  refine X_ld rfl rfl rfl rfl ?_
  refine X_bin rfl rfl ?_
  refine X_dup2 rfl rfl rfl ?_
  refine X_mSld w k (m_ix hw hx) hw9 hk rfl ?_
  refine X_ld rfl rfl rfl rfl ?_
  refine X_bin rfl rfl ?_
  refine X_mSst w k (m_ix hw hx) hw9 hk rfl ?_
  exact X_vret rfl rfl ⟨rfl, rfl⟩ (Nat.le_of_ble_eq_true rfl) (Nat.le_of_ble_eq_true rfl)
theorem c_columnAt {G : XE} (hG : x_Kn G) {N : XH} (d : Nat) {x y : Int32} : x_M G mX11_columnAt d 0 0 [.int x, .int y] (N) (x_Ret N (.int (10 + 13 * x + y))) x_noX := by
  refine X_M hG okX11_columnAt rfl (L := [some (.int x), some (.int y)]) rfl (Nat.le_of_ble_eq_true rfl) (fun ad0 nb0 => ?_)
  refine X_push (v := .int 10) rfl (by decide +kernel) ?_
  refine X_push (v := .int 13) rfl (by decide +kernel) ?_
  refine X_ld rfl rfl rfl rfl ?_
  refine X_bin rfl rfl ?_
  refine X_bin rfl rfl ?_
  refine X_ld rfl rfl rfl rfl ?_
  refine X_bin rfl rfl ?_
  exact X_iret rfl rfl ⟨rfl, rfl⟩ (Nat.le_of_ble_eq_true rfl) (Nat.le_of_ble_eq_true rfl)
theorem c_valueAt {G : XE} (hG : x_Kn G) {N : XH} (d : Nat) {x y : Int32} : x_M G mX11_valueAt d 0 0 [.int x, .int y] (N) (x_Ret N (.int (75 + 5 * x + y))) x_noX := by
  refine X_M hG okX11_valueAt rfl (L := [some (.int x), some (.int y)]) rfl (Nat.le_of_ble_eq_true rfl) (fun ad0 nb0 => ?_)
  refine X_push (v := .int 75) rfl (by decide +kernel) ?_
  refine X_push (v := .int 5) rfl (by decide +kernel) ?_
  refine X_ld rfl rfl rfl rfl ?_
  refine X_bin rfl rfl ?_
  refine X_bin rfl rfl ?_
  refine X_ld rfl rfl rfl rfl ?_
  refine X_bin rfl rfl ?_
  exact X_iret rfl rfl ⟨rfl, rfl⟩ (Nat.le_of_ble_eq_true rfl) (Nat.le_of_ble_eq_true rfl)
theorem c_statementAt {G : XE} (hG : x_Kn G) {N : XH} (d : Nat) {x y : Int32} : x_M G mX11_statementAt d 0 0 [.int x, .int y] (N) (x_Ret N (.int (275 + 30 * x + y))) x_noX := by
  refine X_M hG okX11_statementAt rfl (L := [some (.int x), some (.int y)]) rfl (Nat.le_of_ble_eq_true rfl) (fun ad0 nb0 => ?_)
  refine X_push (v := .int 275) rfl (by decide +kernel) ?_
  refine X_push (v := .int 30) rfl (by decide +kernel) ?_
  refine X_ld rfl rfl rfl rfl ?_
  refine X_bin rfl rfl ?_
  refine X_bin rfl rfl ?_
  refine X_ld rfl rfl rfl rfl ?_
  refine X_bin rfl rfl ?_
  exact X_iret rfl rfl ⟨rfl, rfl⟩ (Nat.le_of_ble_eq_true rfl) (Nat.le_of_ble_eq_true rfl)
theorem c_codeAt {G : XE} (hG : x_Kn G) {N : XH} (d : Nat) {x y : Int32} : x_M G mX11_codeAt d 0 0 [.int x, .int y] (N) (x_Ret N (.int (455 + 6 * x + y))) x_noX := by
  refine X_M hG okX11_codeAt rfl (L := [some (.int x), some (.int y)]) rfl (Nat.le_of_ble_eq_true rfl) (fun ad0 nb0 => ?_)
  refine X_push (v := .int 455) rfl (by decide +kernel) ?_
  refine X_push (v := .int 6) rfl (by decide +kernel) ?_
  refine X_ld rfl rfl rfl rfl ?_
  refine X_bin rfl rfl ?_
  refine X_bin rfl rfl ?_
  refine X_ld rfl rfl rfl rfl ?_
  refine X_bin rfl rfl ?_
  exact X_iret rfl rfl ⟨rfl, rfl⟩ (Nat.le_of_ble_eq_true rfl) (Nat.le_of_ble_eq_true rfl)
theorem m_columnAt {x y : Int32} {a b : Nat} (hx : x = nI a) (hy : y = nI b) : (10 : Int32) + 13 * x + y = nI (10 + 13 * a + b) := by
  rw [hx, hy, show (13 : Int32) * nI a = nI (13 * a) from pk_mul 13 a, show (10 : Int32) + nI (13 * a) = nI (10 + 13 * a) from nI_add _ _, nI_add]
theorem c_ofColumn {G : XE} (hG : x_Kn G) {B : XH} {I : Nat → Int32} {T : Int64} {S : Nat → Nat → Int32} {rd tx gv pl : Nat → Int32} (d : Nat) (w : Nat) (hw : I 3 = nI w) (hw9 : w < 9) (a b : Nat) (hk : 10 + 13 * a + b < 2400) {x y : Int32} (hx : x = nI a) (hy : y = nI b) : x_M G mX11_ofColumn (d + 1) 0 0 [.ref 275, .int x, .int y] (mset B I T S rd tx gv pl) (x_Ret (mset B I T S rd tx gv pl) (.int (S w (10 + 13 * a + b)))) x_noX := by
  refine X_M hG okX11_ofColumn rfl (L := [some (.ref 275), some (.int x), some (.int y)]) rfl (Nat.le_of_ble_eq_true rfl) (fun ad0 nb0 => ?_)
  refine X_ld rfl rfl rfl rfl ?_
  refine X_ld rfl rfl rfl rfl ?_
  refine X_ld rfl rfl rfl rfl ?_
  refine X_scall l_X11_X11_columnAt (c_columnAt hG d) rfl rfl rfl (Nat.le_of_ble_eq_true rfl) (Nat.le_of_ble_eq_true rfl) (Nat.le_refl _) (Nat.le_of_ble_eq_true rfl) (Nat.le_of_ble_eq_true rfl) ?_
  refine X_mcall l_X11_X11_get (c_get hG d w hw hw9 (10 + 13 * a + b) hk (m_columnAt hx hy)) rfl rfl rfl rfl (Nat.le_of_ble_eq_true rfl) (Nat.le_of_ble_eq_true rfl) (Nat.le_refl _) (Nat.le_of_ble_eq_true rfl) (Nat.le_of_ble_eq_true rfl) ?_
  exact X_iret rfl rfl ⟨rfl, rfl⟩ (Nat.le_of_ble_eq_true rfl) (Nat.le_of_ble_eq_true rfl)
theorem m_statementAt {x y : Int32} {a b : Nat} (hx : x = nI a) (hy : y = nI b) : (275 : Int32) + 30 * x + y = nI (275 + 30 * a + b) := by
  rw [hx, hy, show (30 : Int32) * nI a = nI (30 * a) from pk_mul 30 a, show (275 : Int32) + nI (30 * a) = nI (275 + 30 * a) from nI_add _ _, nI_add]
theorem c_ofStatement {G : XE} (hG : x_Kn G) {B : XH} {I : Nat → Int32} {T : Int64} {S : Nat → Nat → Int32} {rd tx gv pl : Nat → Int32} (d : Nat) (w : Nat) (hw : I 3 = nI w) (hw9 : w < 9) (a b : Nat) (hk : 275 + 30 * a + b < 2400) {x y : Int32} (hx : x = nI a) (hy : y = nI b) : x_M G mX11_ofStatement (d + 1) 0 0 [.ref 275, .int x, .int y] (mset B I T S rd tx gv pl) (x_Ret (mset B I T S rd tx gv pl) (.int (S w (275 + 30 * a + b)))) x_noX := by
  refine X_M hG okX11_ofStatement rfl (L := [some (.ref 275), some (.int x), some (.int y)]) rfl (Nat.le_of_ble_eq_true rfl) (fun ad0 nb0 => ?_)
  refine X_ld rfl rfl rfl rfl ?_
  refine X_ld rfl rfl rfl rfl ?_
  refine X_ld rfl rfl rfl rfl ?_
  refine X_scall l_X11_X11_statementAt (c_statementAt hG d) rfl rfl rfl (Nat.le_of_ble_eq_true rfl) (Nat.le_of_ble_eq_true rfl) (Nat.le_refl _) (Nat.le_of_ble_eq_true rfl) (Nat.le_of_ble_eq_true rfl) ?_
  refine X_mcall l_X11_X11_get (c_get hG d w hw hw9 (275 + 30 * a + b) hk (m_statementAt hx hy)) rfl rfl rfl rfl (Nat.le_of_ble_eq_true rfl) (Nat.le_of_ble_eq_true rfl) (Nat.le_refl _) (Nat.le_of_ble_eq_true rfl) (Nat.le_of_ble_eq_true rfl) ?_
  exact X_iret rfl rfl ⟨rfl, rfl⟩ (Nat.le_of_ble_eq_true rfl) (Nat.le_of_ble_eq_true rfl)
theorem m_codeAt {x y : Int32} {a b : Nat} (hx : x = nI a) (hy : y = nI b) : (455 : Int32) + 6 * x + y = nI (455 + 6 * a + b) := by
  rw [hx, hy, show (6 : Int32) * nI a = nI (6 * a) from pk_mul 6 a, show (455 : Int32) + nI (6 * a) = nI (455 + 6 * a) from nI_add _ _, nI_add]
theorem c_ofCode {G : XE} (hG : x_Kn G) {B : XH} {I : Nat → Int32} {T : Int64} {S : Nat → Nat → Int32} {rd tx gv pl : Nat → Int32} (d : Nat) (w : Nat) (hw : I 3 = nI w) (hw9 : w < 9) (a b : Nat) (hk : 455 + 6 * a + b < 2400) {x y : Int32} (hx : x = nI a) (hy : y = nI b) : x_M G mX11_ofCode (d + 1) 0 0 [.ref 275, .int x, .int y] (mset B I T S rd tx gv pl) (x_Ret (mset B I T S rd tx gv pl) (.int (S w (455 + 6 * a + b)))) x_noX := by
  refine X_M hG okX11_ofCode rfl (L := [some (.ref 275), some (.int x), some (.int y)]) rfl (Nat.le_of_ble_eq_true rfl) (fun ad0 nb0 => ?_)
  refine X_ld rfl rfl rfl rfl ?_
  refine X_ld rfl rfl rfl rfl ?_
  refine X_ld rfl rfl rfl rfl ?_
  refine X_scall l_X11_X11_codeAt (c_codeAt hG d) rfl rfl rfl (Nat.le_of_ble_eq_true rfl) (Nat.le_of_ble_eq_true rfl) (Nat.le_refl _) (Nat.le_of_ble_eq_true rfl) (Nat.le_of_ble_eq_true rfl) ?_
  refine X_mcall l_X11_X11_get (c_get hG d w hw hw9 (455 + 6 * a + b) hk (m_codeAt hx hy)) rfl rfl rfl rfl (Nat.le_of_ble_eq_true rfl) (Nat.le_of_ble_eq_true rfl) (Nat.le_refl _) (Nat.le_of_ble_eq_true rfl) (Nat.le_of_ble_eq_true rfl) ?_
  exact X_iret rfl rfl ⟨rfl, rfl⟩ (Nat.le_of_ble_eq_true rfl) (Nat.le_of_ble_eq_true rfl)
theorem m_valueAt {x y : Int32} {a b : Nat} (hx : x = nI a) (hy : y = nI b) : (75 : Int32) + 5 * x + y = nI (75 + 5 * a + b) := by
  rw [hx, hy, show (5 : Int32) * nI a = nI (5 * a) from pk_mul 5 a, show (75 : Int32) + nI (5 * a) = nI (75 + 5 * a) from nI_add _ _, nI_add]
def s_most (t : Int32) : Int32 := if t = 0 then 9999 else if t = 1 then 999 else 1
theorem c_mostOf {G : XE} (hG : x_Kn G) {N : XH} (d : Nat) {x : Int32} : x_M G mX11_mostOf d 0 0 [.int x] (N) (x_Ret N (.int (s_most x))) x_noX := by
  refine X_M hG okX11_mostOf rfl (L := [some (.int x)]) rfl (Nat.le_of_ble_eq_true rfl) (fun ad0 nb0 => ?_)
  refine X_ld rfl rfl rfl rfl ?_
  refine X_if_ne rfl (fun c => ?_) (fun c => ?_)
  · refine X_ld rfl rfl rfl rfl ?_
    refine X_push (v := .int 1) rfl (by decide +kernel) ?_
    refine X_icmp_ne rfl (fun c2 => ?_) (fun c2 => ?_)
    · refine X_push (v := .int 1) rfl (by decide +kernel) ?_
      exact X_iret rfl rfl ⟨rfl, by unfold s_most; rw [if_neg c, if_neg c2]⟩ (Nat.le_of_ble_eq_true rfl) (Nat.le_of_ble_eq_true rfl)
    · refine X_push (v := .int 999) rfl (by decide +kernel) ?_
      refine X_goto rfl ?_
      exact X_iret rfl rfl ⟨rfl, by unfold s_most; rw [if_neg c, if_pos c2]⟩ (Nat.le_of_ble_eq_true rfl) (Nat.le_of_ble_eq_true rfl)
  · refine X_push (v := .int 9999) rfl (by decide +kernel) ?_
    refine X_goto rfl ?_
    exact X_iret rfl rfl ⟨rfl, by unfold s_most; rw [if_pos c]⟩ (Nat.le_of_ble_eq_true rfl) (Nat.le_of_ble_eq_true rfl)
theorem m_nlt {x y : Int64} (h : ¬ lg_cmp x y < 0) : y ≤ x := by
  have h1 : ¬ x < y := fun q => h (lg_lt0.mpr q)
  rw [Int64.lt_iff_toInt_lt] at h1
  rw [Int64.le_iff_toInt_le]
  omega
theorem m_ngt {x y : Int64} (h : ¬ 0 < lg_cmp x y) : x ≤ y := by
  have h1 : ¬ y < x := fun q => h (lg_gt0.mpr q)
  rw [Int64.lt_iff_toInt_lt] at h1
  rw [Int64.le_iff_toInt_le]
  omega
theorem c_isIn {G : XE} (hG : x_Kn G) {N : XH} (d : Nat) {x y z : Int32} {lx ly lz : Int64} (hx : lx = x.toInt64) (hy : ly = y.toInt64) (hz : lz = z.toInt64) : x_M G mX11_isIn d 0 0 [.long lx, .long ly, .long lz] (N) (x_Ret N (.int (bI (y ≤ x ∧ x ≤ z)))) x_noX := by
  subst hx hy hz
  refine X_M hG okX11_isIn rfl (L := [some (.long x.toInt64), none, some (.long y.toInt64), none, some (.long z.toInt64), none]) rfl (Nat.le_of_ble_eq_true rfl) (fun ad0 nb0 => ?_)
  refine X_ld rfl rfl rfl rfl ?_
  refine X_ld rfl rfl rfl rfl ?_
  refine X_bin rfl rfl ?_
  refine X_if_lt rfl (fun c => ?_) (fun c => ?_)
  · refine X_push (v := .int 0) rfl (by decide +kernel) ?_
    exact X_zret rfl rfl rfl ⟨rfl, by rw [bI_f (fun q => absurd (i2l_le.mpr q.1) (lg_lt_not_le (lg_lt0.mp c)))]⟩ (Nat.le_of_ble_eq_true rfl) (Nat.le_of_ble_eq_true rfl)
  · refine X_ld rfl rfl rfl rfl ?_
    refine X_ld rfl rfl rfl rfl ?_
    refine X_bin rfl rfl ?_
    refine X_if_gt rfl (fun c2 => ?_) (fun c2 => ?_)
    · refine X_push (v := .int 0) rfl (by decide +kernel) ?_
      exact X_zret rfl rfl rfl ⟨rfl, by rw [bI_f (fun q => absurd (i2l_le.mpr q.2) (lg_lt_not_le (lg_gt0.mp c2)))]⟩ (Nat.le_of_ble_eq_true rfl) (Nat.le_of_ble_eq_true rfl)
    · refine X_push (v := .int 1) rfl (by decide +kernel) ?_
      refine X_goto rfl ?_
      exact X_zret rfl rfl rfl ⟨rfl, by rw [bI_t ⟨i2l_le.mp (m_nlt c), i2l_le.mp (m_ngt c2)⟩]⟩ (Nat.le_of_ble_eq_true rfl) (Nat.le_of_ble_eq_true rfl)
theorem c_right {G : XE} (hG : x_Kn G) {B : XH} {I : Nat → Int32} {T : Int64} {S : Nat → Nat → Int32} {rd tx gv pl : Nat → Int32} (d : Nat) {p : Prop} [Decidable p] (h0 : I 0 = 0) {code : Int32} (hc : ¬ code = 0) : x_M G mX11_right d 0 0 [.ref 275, .int (bI p), .int code] (mset B I T S rd tx gv pl) (x_Ret (mset B (if p then I else upd I 0 code) T S rd tx gv pl) (.int (bI p))) x_noX := by
  refine X_M hG okX11_right rfl (L := [some (.ref 275), some (.int (bI p)), some (.int code)]) rfl (Nat.le_of_ble_eq_true rfl) (fun ad0 nb0 => ?_)
  refine X_ld rfl rfl rfl rfl ?_
  refine X_get f_X11_37 rfl rfl rfl ?_
  refine X_if_ne rfl (fun c => absurd h0 c) (fun _ => ?_)
  refine X_ld rfl rfl rfl rfl ?_
  refine X_if_ne rfl (fun c => ?_) (fun c => ?_)
  · refine X_ld rfl rfl rfl rfl ?_
    refine X_get f_X11_37 rfl rfl rfl ?_
    refine X_if_ne rfl (fun c3 => absurd h0 c3) (fun _ => ?_)
    refine X_push (v := .int 1) rfl (by decide +kernel) ?_
    refine X_goto rfl ?_
    exact X_zret rfl rfl rfl ⟨by rw [if_pos (bI_ne.mp c)], by rw [bI_t (bI_ne.mp c)]⟩ (Nat.le_of_ble_eq_true rfl) (Nat.le_of_ble_eq_true rfl)
  · refine X_ld rfl rfl rfl rfl ?_
    refine X_ld rfl rfl rfl rfl ?_
    refine X_mput f_X11_37 rfl rfl ?_
    refine X_ld rfl rfl rfl rfl ?_
    refine X_get f_X11_37 rfl rfl rfl ?_
    refine X_if_ne rfl (fun c3 => ?_) (fun c3 => absurd (updI_eq.symm.trans c3) hc)
    refine X_push (v := .int 0) rfl (by decide +kernel) ?_
    exact X_zret rfl rfl rfl ⟨by rw [if_neg (fun q => (bI_ne.mpr q) c)], by rw [bI_f (fun q => (bI_ne.mpr q) c)]⟩ (Nat.le_of_ble_eq_true rfl) (Nat.le_of_ble_eq_true rfl)
end
section
/-! ===== the reference: estimates, plans, costs ===== -/
def b2 (z : Bool) : Int32 := bif z then 1 else 0
theorem b2_0 {z : Bool} (h : b2 z = 0) : z = false := by cases z with | false => rfl | true => exact absurd h (by decide)
theorem b2_1 {z : Bool} (h : ¬ b2 z = 0) : z = true := by cases z with | true => rfl | false => exact absurd rfl h
theorem b2_01 (z : Bool) : b2 z = 0 ∨ b2 z = 1 := by cases z with | true => exact Or.inr rfl | false => exact Or.inl rfl
theorem b2_nar (z : Bool) : narrow .boolean (.int (b2 z)) = .int (b2 z) := by cases z <;> rfl
def s_upb (P : Nat → Bool) (k : Nat) (b : Bool) : Nat → Bool := fun i => if i = k then b else P i
theorem s_upb_b2 {P : Nat → Bool} {k : Nat} {b : Bool} : upd (fun i => b2 (P i)) k (b2 b) = fun i => b2 (s_upb P k b i) := by
  funext i
  unfold upd s_upb
  by_cases h : i = k
  · rw [if_pos h, if_pos h]
  · rw [if_neg h, if_neg h]
theorem upd_upd {I : Nat → Int32} {k : Nat} {a b : Int32} : upd (upd I k a) k b = upd I k b := by
  funext i
  unfold upd
  by_cases h : i = k
  · rw [if_pos h, if_pos h]
  · rw [if_neg h, if_neg h, if_neg h]
section MROWS
variable {G : XE} {M : XMI} {Z : XZ} {cells slots pc pc' t : Nat} {L : List (Option Value)} {st : List Value} {B : XH} {I : Nat → Int32} {T : Int64} {S : Nat → Nat → Int32} {rd tx gv pl : Nat → Int32}
theorem X_heap {N N' : XH} (h : N = N') (kk : x_W G M Z N' cells slots pc L st) : x_W G M Z N cells slots pc L st := by rw [h]; exact kk
theorem X_stk {st' : List Value} (h : st = st') (kk : x_W G M Z B cells slots pc L st') : x_W G M Z B cells slots pc L st := by rw [h]; exact kk
theorem X_mPb {j : Int32} {P : Nat → Bool} (k : Nat) (b : Bool) (hj : j = nI k) (hk : k < 400) (hd : x_at (x_k M) pc = some (.bastore, pc', t)) (kk : x_W G M Z (mset B I T S rd tx gv (fun i => b2 (s_upb P k b i))) cells slots pc' L st) : x_W G M Z (mset B I T S rd tx gv (fun i => b2 (P i))) cells slots pc L (.int (b2 b) :: .int j :: .ref 280 :: st) :=
  X_mPst k hj hk (b2_01 b) hd (by rw [s_upb_b2]; exact kk)
theorem X_zaldn {a n : Nat} {mu : Bool} {f : Nat → Int32} {N : XH} {j : Int32} (k : Nat) (hj : j = nI k) (hk : k < n) (hn : n < 2 ^ 31) (hd : x_at (x_k M) pc = some (.baload, pc', t)) (hN : N a = some (.inr (mu, .boolean, n, fun j => .int (f j)))) (kk : x_W G M Z N cells slots pc' L (.int (f k) :: st)) : x_W G M Z N cells slots pc L (.int j :: .ref a :: st) := by
  have e : j.toNatClampNeg = k := by rw [hj]; exact nI_clamp (by omega)
  refine X_zald hd hN (by rw [hj]; exact vp_in_nI hk hn) (v := .int (f k)) ?_ kk
  rw [e]
end MROWS
theorem m_dec {x : Int32} {a : Nat} (h : 1 ≤ a) (hx : x = nI a) : x + Int32.ofInt (-1) = nI (a - 1) := by
  obtain ⟨b, rfl⟩ : ∃ b, a = b + 1 := ⟨a - 1, by omega⟩
  rw [hx, ← nI_1 b, Nat.add_sub_cancel, Int32.add_assoc, show (1 : Int32) + Int32.ofInt (-1) = 0 by decide, Int32.add_zero]
theorem m_subc {x : Int32} {a b : Nat} (h : b ≤ a) (hx : x = nI a) : x - nI b = nI (a - b) := by
  obtain ⟨e, rfl⟩ : ∃ e, a = e + b := ⟨a - b, by omega⟩
  rw [hx, ← nI_add, Nat.add_sub_cancel, Int32.add_sub_cancel]
theorem m_rng {x y : Int32} {m : Nat} (hm : y = nI m) (hb : m < 2147483648) (h : 0 ≤ x ∧ x ≤ y - 1) : ∃ j, j < m ∧ x = nI j := by
  obtain ⟨j, h1, h2⟩ := nI_of (Int32.not_lt.mpr h.1)
  refine ⟨j, ?_, h2⟩
  have h3 := Int32.le_iff_toInt_le.mp h.2
  cases m with
  | zero =>
    exfalso
    rw [hm, h2, nI_toInt h1, show (nI 0 - 1 : Int32).toInt = -1 by decide] at h3
    omega
  | succ n =>
    rw [hm, show (1 : Int32) = nI 1 from rfl, m_subc (by omega) rfl, h2, nI_toInt h1, nI_toInt (by omega)] at h3
    omega
theorem m_rngc {x y : Int32} {m : Nat} (hm : y = nI m) (hb : m < 2147483648) (h : 0 ≤ x ∧ x ≤ y) : ∃ j, j ≤ m ∧ x = nI j := by
  obtain ⟨j, h1, h2⟩ := nI_of (Int32.not_lt.mpr h.1)
  refine ⟨j, ?_, h2⟩
  have h3 := Int32.le_iff_toInt_le.mp h.2
  rw [hm, h2, nI_toInt h1, nI_toInt hb] at h3
  omega
theorem m_add {x y : Int32} {a b : Nat} (hx : x = nI a) (hy : y = nI b) : x + y = nI (a + b) := by rw [hx, hy, nI_add]
theorem m_mulc {y : Int32} {a b : Nat} (hy : y = nI b) : nI a * y = nI (a * b) := by rw [hy]; exact pk_mul a b
theorem m_inc {x : Int32} {a : Nat} (hx : x = nI a) : x + Int32.ofInt 1 = nI (a + 1) := by rw [hx]; exact nI_1 a
theorem n_le {x y : Int32} {a b : Nat} (hx : x = nI a) (hy : y = nI b) (ha : a < 2147483648) (hb : b < 2147483648) : x ≤ y ↔ a ≤ b := by rw [hx, hy]; exact nI_leI ha hb
theorem n_lt {x y : Int32} {a b : Nat} (hx : x = nI a) (hy : y = nI b) (ha : a < 2147483648) (hb : b < 2147483648) : x < y ↔ a < b := by rw [hx, hy]; exact nI_ltI ha hb
theorem n_eq {x y : Int32} {a b : Nat} (hx : x = nI a) (hy : y = nI b) (ha : a < 2147483648) (hb : b < 2147483648) : x = y ↔ a = b := by rw [hx, hy]; exact nI_eq ha hb
def s_up (a b : Int32) : Int32 := (a + b - 1) / b
abbrev s_col (c : Nat → Int32) (j x : Nat) : Int32 := c (10 + 13 * j + x)
abbrev s_st (c : Nat → Int32) (s x : Nat) : Int32 := c (275 + 30 * s + x)
abbrev s_cod (c : Nat → Int32) (k x : Nat) : Int32 := c (455 + 6 * k + x)
abbrev s_val (c : Nat → Int32) (l j : Nat) : Int32 := c (75 + 5 * l + j)
/-- the estimate of comparison k, of column j, with value v -/
def s_seen (c : Nat → Int32) (k j : Nat) (v : Int32) : Int32 :=
  if s_cod c k 2 = 61 then (if v < s_col c j 11 then 0 else if s_col c j 12 < v then 0 else s_up (c 8) (s_col c j 10))
  else x_max 0 (x_min (c 8) (c 8 * (if s_cod c k 2 = 60 then v - s_col c j 11 else s_col c j 12 - v) / (s_col c j 12 - s_col c j 11 + 1)))
theorem c_up {G : XE} (hG : x_Kn G) {N : XH} (d : Nat) {x y : Int32} (hy : ¬ y = 0) : x_M G mX11_up d 0 0 [.int x, .int y] (N) (x_Ret N (.int (s_up x y))) x_noX := by
  refine X_M hG okX11_up rfl (L := [some (.int x), some (.int y)]) rfl (Nat.le_of_ble_eq_true rfl) (fun ad0 nb0 => ?_)
  refine X_ld rfl rfl rfl rfl ?_
  refine X_ld rfl rfl rfl rfl ?_
  refine X_bin rfl rfl ?_
  refine X_push (v := .int 1) rfl (by decide +kernel) ?_
  refine X_bin rfl rfl ?_
  refine X_ld rfl rfl rfl rfl ?_
  refine X_idiv rfl hy ?_
  exact X_iret rfl rfl ⟨rfl, rfl⟩ (Nat.le_of_ble_eq_true rfl) (Nat.le_of_ble_eq_true rfl)
theorem c_seenEstimate {G : XE} (hG : x_Kn G) {B : XH} {I : Nat → Int32} {T : Int64} {S : Nat → Nat → Int32} {rd tx gv pl : Nat → Int32} (d : Nat) (w : Nat) (hw : I 3 = nI w) (hw9 : w < 9) (k j : Nat) (hk : k < 324) (hj : j < 5) (hof : S w (455 + 6 * k + 1) = nI j) (hu : ¬ S w (10 + 13 * j + 10) = 0) (hdv : ¬ S w (10 + 13 * j + 12) - S w (10 + 13 * j + 11) + 1 = 0) {x v : Int32} (hx : x = nI k) : x_M G mX11_seenEstimate (d + 2) 0 0 [.ref 275, .int x, .int v] (mset B I T S rd tx gv pl) (x_Ret (mset B I T S rd tx gv pl) (.int (s_seen (S w) k j v))) x_noX := by
  refine X_M hG okX11_seenEstimate rfl (L := [some (.ref 275), some (.int x), some (.int v), none, none, none, none, none]) rfl (Nat.le_of_ble_eq_true rfl) (fun ad0 nb0 => ?_)
  refine X_ld rfl rfl rfl rfl ?_
  refine X_ld rfl rfl rfl rfl ?_
  refine X_push (v := .int 1) rfl (by decide +kernel) ?_
  refine X_mcall l_X11_X11_ofCode (c_ofCode hG d w hw hw9 k 1 (by omega) hx rfl) rfl rfl rfl rfl (Nat.le_of_ble_eq_true rfl) (Nat.le_of_ble_eq_true rfl) (Nat.le_refl _) (Nat.le_of_ble_eq_true rfl) (Nat.le_of_ble_eq_true rfl) ?_
  refine X_st rfl rfl rfl ?_
  refine X_ld rfl rfl rfl rfl ?_
  refine X_push (v := .int 8) rfl (by decide +kernel) ?_
  refine X_mcall l_X11_X11_get (c_get hG (d + 1) w hw hw9 8 (by omega) rfl) rfl rfl rfl rfl (Nat.le_of_ble_eq_true rfl) (Nat.le_of_ble_eq_true rfl) (Nat.le_refl _) (Nat.le_of_ble_eq_true rfl) (Nat.le_of_ble_eq_true rfl) ?_
  refine X_st rfl rfl rfl ?_
  refine X_ld rfl rfl rfl rfl ?_
  refine X_ld rfl rfl rfl rfl ?_
  refine X_push (v := .int 11) rfl (by decide +kernel) ?_
  refine X_mcall l_X11_X11_ofColumn (c_ofColumn hG d w hw hw9 j 11 (by omega) hof rfl) rfl rfl rfl rfl (Nat.le_of_ble_eq_true rfl) (Nat.le_of_ble_eq_true rfl) (Nat.le_refl _) (Nat.le_of_ble_eq_true rfl) (Nat.le_of_ble_eq_true rfl) ?_
  refine X_st rfl rfl rfl ?_
  refine X_ld rfl rfl rfl rfl ?_
  refine X_ld rfl rfl rfl rfl ?_
  refine X_push (v := .int 12) rfl (by decide +kernel) ?_
  refine X_mcall l_X11_X11_ofColumn (c_ofColumn hG d w hw hw9 j 12 (by omega) hof rfl) rfl rfl rfl rfl (Nat.le_of_ble_eq_true rfl) (Nat.le_of_ble_eq_true rfl) (Nat.le_refl _) (Nat.le_of_ble_eq_true rfl) (Nat.le_of_ble_eq_true rfl) ?_
  refine X_st rfl rfl rfl ?_
  refine X_ld rfl rfl rfl rfl ?_
  refine X_ld rfl rfl rfl rfl ?_
  refine X_push (v := .int 2) rfl (by decide +kernel) ?_
  refine X_mcall l_X11_X11_ofCode (c_ofCode hG d w hw hw9 k 2 (by omega) hx rfl) rfl rfl rfl rfl (Nat.le_of_ble_eq_true rfl) (Nat.le_of_ble_eq_true rfl) (Nat.le_refl _) (Nat.le_of_ble_eq_true rfl) (Nat.le_of_ble_eq_true rfl) ?_
  refine X_push (v := .int 61) rfl (by decide +kernel) ?_
  refine X_icmp_ne rfl (fun c41 => ?_) (fun c41 => ?_)
  · refine X_ld rfl rfl rfl rfl ?_
    refine X_ld rfl rfl rfl rfl ?_
    refine X_push (v := .int 2) rfl (by decide +kernel) ?_
    refine X_mcall l_X11_X11_ofCode (c_ofCode hG d w hw hw9 k 2 (by omega) hx rfl) rfl rfl rfl rfl (Nat.le_of_ble_eq_true rfl) (Nat.le_of_ble_eq_true rfl) (Nat.le_refl _) (Nat.le_of_ble_eq_true rfl) (Nat.le_of_ble_eq_true rfl) ?_
    refine X_push (v := .int 60) rfl (by decide +kernel) ?_
    refine X_icmp_ne rfl (fun c81 => ?_) (fun c81 => ?_)
    · refine X_ld rfl rfl rfl rfl ?_
      refine X_ld rfl rfl rfl rfl ?_
      refine X_bin rfl rfl ?_
      refine X_st rfl rfl rfl ?_
      refine X_push (v := .int 0) rfl (by decide +kernel) ?_
      refine X_ld rfl rfl rfl rfl ?_
      refine X_ld rfl rfl rfl rfl ?_
      refine X_ld rfl rfl rfl rfl ?_
      refine X_bin rfl rfl ?_
      refine X_ld rfl rfl rfl rfl ?_
      refine X_ld rfl rfl rfl rfl ?_
      refine X_bin rfl rfl ?_
      refine X_push (v := .int 1) rfl (by decide +kernel) ?_
      refine X_bin rfl rfl ?_
      refine X_idiv rfl hdv ?_
      refine X_min lmin_X11 rfl (by omega) (Nat.le_of_ble_eq_true rfl) (Nat.le_of_ble_eq_true rfl) (Nat.le_of_ble_eq_true rfl) ?_
      refine X_max lmax_X11 rfl (by omega) (Nat.le_of_ble_eq_true rfl) (Nat.le_of_ble_eq_true rfl) (Nat.le_of_ble_eq_true rfl) ?_
      exact X_iret rfl rfl ⟨rfl, by unfold s_seen; rw [if_neg c41, if_neg c81]⟩ (Nat.le_of_ble_eq_true rfl) (Nat.le_of_ble_eq_true rfl)
    · refine X_ld rfl rfl rfl rfl ?_
      refine X_ld rfl rfl rfl rfl ?_
      refine X_bin rfl rfl ?_
      refine X_goto rfl ?_
      refine X_st rfl rfl rfl ?_
      refine X_push (v := .int 0) rfl (by decide +kernel) ?_
      refine X_ld rfl rfl rfl rfl ?_
      refine X_ld rfl rfl rfl rfl ?_
      refine X_ld rfl rfl rfl rfl ?_
      refine X_bin rfl rfl ?_
      refine X_ld rfl rfl rfl rfl ?_
      refine X_ld rfl rfl rfl rfl ?_
      refine X_bin rfl rfl ?_
      refine X_push (v := .int 1) rfl (by decide +kernel) ?_
      refine X_bin rfl rfl ?_
      refine X_idiv rfl hdv ?_
      refine X_min lmin_X11 rfl (by omega) (Nat.le_of_ble_eq_true rfl) (Nat.le_of_ble_eq_true rfl) (Nat.le_of_ble_eq_true rfl) ?_
      refine X_max lmax_X11 rfl (by omega) (Nat.le_of_ble_eq_true rfl) (Nat.le_of_ble_eq_true rfl) (Nat.le_of_ble_eq_true rfl) ?_
      exact X_iret rfl rfl ⟨rfl, by unfold s_seen; rw [if_neg c41, if_pos c81]⟩ (Nat.le_of_ble_eq_true rfl) (Nat.le_of_ble_eq_true rfl)
  · refine X_ld rfl rfl rfl rfl ?_
    refine X_ld rfl rfl rfl rfl ?_
    refine X_icmp_lt rfl (fun c47 => ?_) (fun c47 => ?_)
    · refine X_push (v := .int 0) rfl (by decide +kernel) ?_
      refine X_goto rfl ?_
      exact X_iret rfl rfl ⟨rfl, by unfold s_seen; rw [if_pos c41, if_pos c47]⟩ (Nat.le_of_ble_eq_true rfl) (Nat.le_of_ble_eq_true rfl)
    · refine X_ld rfl rfl rfl rfl ?_
      refine X_ld rfl rfl rfl rfl ?_
      refine X_icmp_le rfl (fun c53 => ?_) (fun c53 => ?_)
      · refine X_ld rfl rfl rfl rfl ?_
        refine X_ld rfl rfl rfl rfl ?_
        refine X_ld rfl rfl rfl rfl ?_
        refine X_push (v := .int 10) rfl (by decide +kernel) ?_
        refine X_mcall l_X11_X11_ofColumn (c_ofColumn hG d w hw hw9 j 10 (by omega) hof rfl) rfl rfl rfl rfl (Nat.le_of_ble_eq_true rfl) (Nat.le_of_ble_eq_true rfl) (Nat.le_refl _) (Nat.le_of_ble_eq_true rfl) (Nat.le_of_ble_eq_true rfl) ?_
        refine X_scall l_X11_X11_up (c_up hG (d + 1) hu) rfl rfl rfl (Nat.le_of_ble_eq_true rfl) (Nat.le_of_ble_eq_true rfl) (Nat.le_refl _) (Nat.le_of_ble_eq_true rfl) (Nat.le_of_ble_eq_true rfl) ?_
        exact X_iret rfl rfl ⟨rfl, by unfold s_seen; rw [if_pos c41, if_neg c47, if_neg (Int32.not_lt.mpr c53)]⟩ (Nat.le_of_ble_eq_true rfl) (Nat.le_of_ble_eq_true rfl)
      · refine X_push (v := .int 0) rfl (by decide +kernel) ?_
        refine X_goto rfl ?_
        exact X_iret rfl rfl ⟨rfl, by unfold s_seen; rw [if_pos c41, if_neg c47, if_pos (Int32.not_le.mp c53)]⟩ (Nat.le_of_ble_eq_true rfl) (Nat.le_of_ble_eq_true rfl)
def s_est0 (c gv : Nat → Int32) (k j : Nat) (z : Bool) : Int32 :=
  if c 8 = 0 then 0 else
  if s_cod c k 3 = 2 then (bif z then s_seen c k j (gv (s_cod c k 4).toNatClampNeg) else (if s_cod c k 2 = 61 then s_up (c 8) (s_col c j 10) else (c 8 + 2) / 3))
  else s_seen c k j (s_cod c k 4)
/-- the estimate of comparison k, its values seen or not -/
def s_est (c gv : Nat → Int32) (k : Nat) (z : Bool) : Int32 := s_est0 c gv k (s_cod c k 1).toNatClampNeg z
/-- a comparison that can be estimated -/
def s_eok (c : Nat → Int32) (k : Nat) : Prop :=
  ∃ j, j < 5 ∧ s_cod c k 1 = nI j ∧ (s_cod c k 3 = 2 → ∃ h, h < 4 ∧ s_cod c k 4 = nI h) ∧ (¬ c 8 = 0 → ¬ s_col c j 10 = 0) ∧ ¬ s_col c j 12 - s_col c j 11 + 1 = 0
theorem m_small {x : Int32} {n : Nat} (hn : n < 2 ^ 31) (h : ∃ k, k < n ∧ x = nI k) : x = nI x.toNatClampNeg ∧ x.toNatClampNeg < n := by
  obtain ⟨k, h1, rfl⟩ := h
  rw [nI_clamp (by omega)]
  exact ⟨rfl, h1⟩
theorem nI_inc (k : Nat) : nI k + Int32.ofInt 1 = nI (k + 1) := nI_1 k
theorem c_estimate {G : XE} (hG : x_Kn G) {B : XH} {I : Nat → Int32} {T : Int64} {S : Nat → Nat → Int32} {rd tx gv pl : Nat → Int32} (d : Nat) (w : Nat) (hw : I 3 = nI w) (hw9 : w < 9) (k : Nat) (hk : k < 324) (he : s_eok (S w) k) (z : Bool) {x : Int32} (hx : x = nI k) : x_M G mX11_estimate (d + 3) 0 0 [.ref 275, .int x, .int (b2 z)] (mset B I T S rd tx gv pl) (x_Ret (mset B I T S rd tx gv pl) (.int (s_est (S w) gv k z))) x_noX := by
  refine X_M hG okX11_estimate rfl (L := [some (.ref 275), some (.int x), some (.int (b2 z)), none, none]) rfl (Nat.le_of_ble_eq_true rfl) (fun ad0 nb0 => ?_)
  obtain ⟨j, hj, hof, hwi, hu, hdv⟩ := he
  cases z with
  | true =>
    refine X_ld rfl rfl rfl rfl ?_
    refine X_push (v := .int 8) rfl (by decide +kernel) ?_
    refine X_mcall l_X11_X11_get (c_get hG (d + 2) w hw hw9 8 (by omega) rfl) rfl rfl rfl rfl (Nat.le_of_ble_eq_true rfl) (Nat.le_of_ble_eq_true rfl) (Nat.le_refl _) (Nat.le_of_ble_eq_true rfl) (Nat.le_of_ble_eq_true rfl) ?_
    refine X_st rfl rfl rfl ?_
    refine X_ld rfl rfl rfl rfl ?_
    refine X_if_ne rfl (fun c8 => ?_) (fun c8 => ?_)
    · refine X_ld rfl rfl rfl rfl ?_
      refine X_ld rfl rfl rfl rfl ?_
      refine X_push (v := .int 3) rfl (by decide +kernel) ?_
      refine X_mcall l_X11_X11_ofCode (c_ofCode hG (d + 1) w hw hw9 k 3 (by omega) hx rfl) rfl rfl rfl rfl (Nat.le_of_ble_eq_true rfl) (Nat.le_of_ble_eq_true rfl) (Nat.le_refl _) (Nat.le_of_ble_eq_true rfl) (Nat.le_of_ble_eq_true rfl) ?_
      refine X_push (v := .int 2) rfl (by decide +kernel) ?_
      refine X_icmp_ne rfl (fun c20 => ?_) (fun c20 => ?_)
      · refine X_push (v := .int 0) rfl (by decide +kernel) ?_
        refine X_st rfl rfl rfl ?_
        refine X_ld rfl rfl rfl rfl ?_
        refine X_if_eq rfl (fun c32 => ?_) (fun c32 => absurd (by decide) c32)
        refine X_ld rfl rfl rfl rfl ?_
        refine X_ld rfl rfl rfl rfl ?_
        refine X_ld rfl rfl rfl rfl ?_
        refine X_if_eq rfl (fun c43 => ?_) (fun c43 => absurd (by decide) c43)
        refine X_ld rfl rfl rfl rfl ?_
        refine X_ld rfl rfl rfl rfl ?_
        refine X_push (v := .int 4) rfl (by decide +kernel) ?_
        refine X_mcall l_X11_X11_ofCode (c_ofCode hG (d + 1) w hw hw9 k 4 (by omega) hx rfl) rfl rfl rfl rfl (Nat.le_of_ble_eq_true rfl) (Nat.le_of_ble_eq_true rfl) (Nat.le_refl _) (Nat.le_of_ble_eq_true rfl) (Nat.le_of_ble_eq_true rfl) ?_
        refine X_mcall l_X11_X11_seenEstimate (c_seenEstimate hG d w hw hw9 k j hk hj hof (hu c8) hdv hx) rfl rfl rfl rfl (Nat.le_of_ble_eq_true rfl) (Nat.le_of_ble_eq_true rfl) (Nat.le_refl _) (Nat.le_of_ble_eq_true rfl) (Nat.le_of_ble_eq_true rfl) ?_
        exact X_iret rfl rfl ⟨rfl, by unfold s_est s_est0; rw [hof, nI_clamp (by omega)]; rw [if_neg c8, if_neg c20] <;> rfl⟩ (Nat.le_of_ble_eq_true rfl) (Nat.le_of_ble_eq_true rfl)
      · refine X_push (v := .int 1) rfl (by decide +kernel) ?_
        refine X_goto rfl ?_
        refine X_st rfl rfl rfl ?_
        refine X_ld rfl rfl rfl rfl ?_
        refine X_if_eq rfl (fun c32 => absurd c32 (by decide)) (fun c32 => ?_)
        refine X_ld rfl rfl rfl rfl ?_
        refine X_if_eq rfl (fun c36 => absurd c36 (by decide)) (fun c36 => ?_)
        refine X_ld rfl rfl rfl rfl ?_
        refine X_ld rfl rfl rfl rfl ?_
        refine X_ld rfl rfl rfl rfl ?_
        refine X_if_eq rfl (fun c43 => absurd c43 (by decide)) (fun c43 => ?_)
        refine X_ld rfl rfl rfl rfl ?_
        refine X_get f_X11_23 rfl rfl rfl ?_
        refine X_ld rfl rfl rfl rfl ?_
        refine X_ld rfl rfl rfl rfl ?_
        refine X_push (v := .int 4) rfl (by decide +kernel) ?_
        refine X_mcall l_X11_X11_ofCode (c_ofCode hG (d + 1) w hw hw9 k 4 (by omega) hx rfl) rfl rfl rfl rfl (Nat.le_of_ble_eq_true rfl) (Nat.le_of_ble_eq_true rfl) (Nat.le_refl _) (Nat.le_of_ble_eq_true rfl) (Nat.le_of_ble_eq_true rfl) ?_
        refine X_ildn _ (m_small (by omega) (hwi c20)).1 (m_small (by omega) (hwi c20)).2 (by omega) rfl rfl ?_
        refine X_goto rfl ?_
        refine X_mcall l_X11_X11_seenEstimate (c_seenEstimate hG d w hw hw9 k j hk hj hof (hu c8) hdv hx) rfl rfl rfl rfl (Nat.le_of_ble_eq_true rfl) (Nat.le_of_ble_eq_true rfl) (Nat.le_refl _) (Nat.le_of_ble_eq_true rfl) (Nat.le_of_ble_eq_true rfl) ?_
        exact X_iret rfl rfl ⟨rfl, by unfold s_est s_est0; rw [hof, nI_clamp (by omega)]; rw [if_neg c8, if_pos c20] <;> rfl⟩ (Nat.le_of_ble_eq_true rfl) (Nat.le_of_ble_eq_true rfl)
    · refine X_push (v := .int 0) rfl (by decide +kernel) ?_
      exact X_iret rfl rfl ⟨rfl, by unfold s_est s_est0; rw [hof, nI_clamp (by omega)]; rw [if_pos c8] <;> rfl⟩ (Nat.le_of_ble_eq_true rfl) (Nat.le_of_ble_eq_true rfl)
  | false =>
    refine X_ld rfl rfl rfl rfl ?_
    refine X_push (v := .int 8) rfl (by decide +kernel) ?_
    refine X_mcall l_X11_X11_get (c_get hG (d + 2) w hw hw9 8 (by omega) rfl) rfl rfl rfl rfl (Nat.le_of_ble_eq_true rfl) (Nat.le_of_ble_eq_true rfl) (Nat.le_refl _) (Nat.le_of_ble_eq_true rfl) (Nat.le_of_ble_eq_true rfl) ?_
    refine X_st rfl rfl rfl ?_
    refine X_ld rfl rfl rfl rfl ?_
    refine X_if_ne rfl (fun c8 => ?_) (fun c8 => ?_)
    · refine X_ld rfl rfl rfl rfl ?_
      refine X_ld rfl rfl rfl rfl ?_
      refine X_push (v := .int 3) rfl (by decide +kernel) ?_
      refine X_mcall l_X11_X11_ofCode (c_ofCode hG (d + 1) w hw hw9 k 3 (by omega) hx rfl) rfl rfl rfl rfl (Nat.le_of_ble_eq_true rfl) (Nat.le_of_ble_eq_true rfl) (Nat.le_refl _) (Nat.le_of_ble_eq_true rfl) (Nat.le_of_ble_eq_true rfl) ?_
      refine X_push (v := .int 2) rfl (by decide +kernel) ?_
      refine X_icmp_ne rfl (fun c20 => ?_) (fun c20 => ?_)
      · refine X_push (v := .int 0) rfl (by decide +kernel) ?_
        refine X_st rfl rfl rfl ?_
        refine X_ld rfl rfl rfl rfl ?_
        refine X_if_eq rfl (fun c32 => ?_) (fun c32 => absurd (by decide) c32)
        refine X_ld rfl rfl rfl rfl ?_
        refine X_ld rfl rfl rfl rfl ?_
        refine X_ld rfl rfl rfl rfl ?_
        refine X_if_eq rfl (fun c43 => ?_) (fun c43 => absurd (by decide) c43)
        refine X_ld rfl rfl rfl rfl ?_
        refine X_ld rfl rfl rfl rfl ?_
        refine X_push (v := .int 4) rfl (by decide +kernel) ?_
        refine X_mcall l_X11_X11_ofCode (c_ofCode hG (d + 1) w hw hw9 k 4 (by omega) hx rfl) rfl rfl rfl rfl (Nat.le_of_ble_eq_true rfl) (Nat.le_of_ble_eq_true rfl) (Nat.le_refl _) (Nat.le_of_ble_eq_true rfl) (Nat.le_of_ble_eq_true rfl) ?_
        refine X_mcall l_X11_X11_seenEstimate (c_seenEstimate hG d w hw hw9 k j hk hj hof (hu c8) hdv hx) rfl rfl rfl rfl (Nat.le_of_ble_eq_true rfl) (Nat.le_of_ble_eq_true rfl) (Nat.le_refl _) (Nat.le_of_ble_eq_true rfl) (Nat.le_of_ble_eq_true rfl) ?_
        exact X_iret rfl rfl ⟨rfl, by unfold s_est s_est0; rw [hof, nI_clamp (by omega)]; rw [if_neg c8, if_neg c20] <;> rfl⟩ (Nat.le_of_ble_eq_true rfl) (Nat.le_of_ble_eq_true rfl)
      · refine X_push (v := .int 1) rfl (by decide +kernel) ?_
        refine X_goto rfl ?_
        refine X_st rfl rfl rfl ?_
        refine X_ld rfl rfl rfl rfl ?_
        refine X_if_eq rfl (fun c32 => absurd c32 (by decide)) (fun c32 => ?_)
        refine X_ld rfl rfl rfl rfl ?_
        refine X_if_eq rfl (fun c36 => ?_) (fun c36 => absurd rfl c36)
        refine X_ld rfl rfl rfl rfl ?_
        refine X_ld rfl rfl rfl rfl ?_
        refine X_push (v := .int 2) rfl (by decide +kernel) ?_
        refine X_mcall l_X11_X11_ofCode (c_ofCode hG (d + 1) w hw hw9 k 2 (by omega) hx rfl) rfl rfl rfl rfl (Nat.le_of_ble_eq_true rfl) (Nat.le_of_ble_eq_true rfl) (Nat.le_refl _) (Nat.le_of_ble_eq_true rfl) (Nat.le_of_ble_eq_true rfl) ?_
        refine X_push (v := .int 61) rfl (by decide +kernel) ?_
        refine X_icmp_ne rfl (fun c78 => ?_) (fun c78 => ?_)
        · refine X_ld rfl rfl rfl rfl ?_
          refine X_push (v := .int 2) rfl (by decide +kernel) ?_
          refine X_bin rfl rfl ?_
          refine X_push (v := .int 3) rfl (by decide +kernel) ?_
          refine X_idiv rfl (by decide) ?_
          exact X_iret rfl rfl ⟨rfl, by unfold s_est s_est0; rw [hof, nI_clamp (by omega)]; rw [if_neg c8, if_pos c20, if_neg c78] <;> rfl⟩ (Nat.le_of_ble_eq_true rfl) (Nat.le_of_ble_eq_true rfl)
        · refine X_ld rfl rfl rfl rfl ?_
          refine X_ld rfl rfl rfl rfl ?_
          refine X_ld rfl rfl rfl rfl ?_
          refine X_ld rfl rfl rfl rfl ?_
          refine X_push (v := .int 1) rfl (by decide +kernel) ?_
          refine X_mcall l_X11_X11_ofCode (c_ofCode hG (d + 1) w hw hw9 k 1 (by omega) hx rfl) rfl rfl rfl rfl (Nat.le_of_ble_eq_true rfl) (Nat.le_of_ble_eq_true rfl) (Nat.le_refl _) (Nat.le_of_ble_eq_true rfl) (Nat.le_of_ble_eq_true rfl) ?_
          refine X_push (v := .int 10) rfl (by decide +kernel) ?_
          refine X_mcall l_X11_X11_ofColumn (c_ofColumn hG (d + 1) w hw hw9 j 10 (by omega) hof rfl) rfl rfl rfl rfl (Nat.le_of_ble_eq_true rfl) (Nat.le_of_ble_eq_true rfl) (Nat.le_refl _) (Nat.le_of_ble_eq_true rfl) (Nat.le_of_ble_eq_true rfl) ?_
          refine X_scall l_X11_X11_up (c_up hG (d + 2) (hu c8)) rfl rfl rfl (Nat.le_of_ble_eq_true rfl) (Nat.le_of_ble_eq_true rfl) (Nat.le_refl _) (Nat.le_of_ble_eq_true rfl) (Nat.le_of_ble_eq_true rfl) ?_
          refine X_goto rfl ?_
          exact X_iret rfl rfl ⟨rfl, by unfold s_est s_est0; rw [hof, nI_clamp (by omega)]; rw [if_neg c8, if_pos c20, if_pos c78] <;> rfl⟩ (Nat.le_of_ble_eq_true rfl) (Nat.le_of_ble_eq_true rfl)
    · refine X_push (v := .int 0) rfl (by decide +kernel) ?_
      exact X_iret rfl rfl ⟨rfl, by unfold s_est s_est0; rw [hof, nI_clamp (by omega)]; rw [if_pos c8] <;> rfl⟩ (Nat.le_of_ble_eq_true rfl) (Nat.le_of_ble_eq_true rfl)
def s_pick (c gv : Nat → Int32) (col : Int32) (z : Bool) (k : Nat) (b : Int32) : Int32 :=
  if s_cod c k 0 = 0 then (if s_cod c k 5 = 1 then (if s_cod c k 1 = col then (if b = -1 then nI k else if s_est c gv k z < s_est c gv b.toNatClampNeg z then nI k else b) else b) else b) else b
def s_chos (c gv : Nat → Int32) (col : Int32) (z : Bool) (f : Nat) : Nat → Int32
  | 0 => -1
  | n + 1 => s_pick c gv col z (f + n) (s_chos c gv col z f n)
def s_from (c : Nat → Int32) (s : Nat) : Nat := (s_st c s 26).toNatClampNeg
def s_to (c : Nat → Int32) (s : Nat) : Nat := (s_st c s 27).toNatClampNeg
/-- the comparison that a plan by a column chooses; -1 -/
def s_chosen (c gv : Nat → Int32) (s : Nat) (col : Int32) (z : Bool) : Int32 := s_chos c gv col z (s_from c s) (s_to c s - s_from c s)
/-- a statement's codes: where they lie, and that its comparisons can be estimated -/
def s_kok (c : Nat → Int32) (s : Nat) : Prop :=
  (∃ f t, f ≤ t ∧ t < 325 ∧ s_st c s 26 = nI f ∧ s_st c s 27 = nI t) ∧ ∀ k, s_from c s ≤ k → k < s_to c s → s_cod c k 0 = 0 → s_eok c k
theorem s_kok_ft {c : Nat → Int32} {s : Nat} (h : s_kok c s) : s_from c s ≤ s_to c s ∧ s_to c s < 325 ∧ s_st c s 26 = nI (s_from c s) ∧ s_st c s 27 = nI (s_to c s) := by
  obtain ⟨⟨f, t, h1, h2, h3, h4⟩, -⟩ := h
  have ef : s_from c s = f := by unfold s_from; rw [h3]; exact nI_clamp (by omega)
  have et : s_to c s = t := by unfold s_to; rw [h4]; exact nI_clamp (by omega)
  rw [ef, et]
  exact ⟨h1, h2, h3, h4⟩
theorem s_pick_ok {c gv : Nat → Int32} {col : Int32} {z : Bool} {k : Nat} {b : Int32} {P : Nat → Prop} (hb : b = -1 ∨ ∃ q, P q ∧ b = nI q) (hk : s_cod c k 0 = 0 → s_cod c k 5 = 1 → s_cod c k 1 = col → P k) : s_pick c gv col z k b = -1 ∨ ∃ q, P q ∧ s_pick c gv col z k b = nI q := by
  unfold s_pick
  by_cases h1 : s_cod c k 0 = 0
  · rw [if_pos h1]
    by_cases h2 : s_cod c k 5 = 1
    · rw [if_pos h2]
      by_cases h3 : s_cod c k 1 = col
      · rw [if_pos h3]
        repeat' split
        all_goals first | exact hb | exact Or.inr ⟨k, hk h1 h2 h3, rfl⟩
      · rw [if_neg h3]; exact hb
    · rw [if_neg h2]; exact hb
  · rw [if_neg h1]
    exact hb
/-- the chosen comparison is one of the statement's, of this column -/
theorem s_chos_ok {c gv : Nat → Int32} {col : Int32} {z : Bool} {f : Nat} : ∀ n, s_chos c gv col z f n = -1 ∨ ∃ q, (f ≤ q ∧ q < f + n ∧ s_cod c q 0 = 0 ∧ s_cod c q 5 = 1 ∧ s_cod c q 1 = col) ∧ s_chos c gv col z f n = nI q
  | 0 => Or.inl rfl
  | n + 1 => by
    have hb : s_chos c gv col z f n = -1 ∨ ∃ q, (f ≤ q ∧ q < f + (n + 1) ∧ s_cod c q 0 = 0 ∧ s_cod c q 5 = 1 ∧ s_cod c q 1 = col) ∧ s_chos c gv col z f n = nI q := by
      rcases s_chos_ok n with h | ⟨q, h1, h2⟩
      · exact Or.inl h
      · exact Or.inr ⟨q, ⟨h1.1, by omega, h1.2.2⟩, h2⟩
    exact s_pick_ok hb fun h1 h2 h3 => ⟨by omega, by omega, h1, h2, h3⟩
theorem s_chosen_ok {c gv : Nat → Int32} {s : Nat} {col : Int32} {z : Bool} (h : s_kok c s) : s_chosen c gv s col z = -1 ∨ ∃ q, (s_from c s ≤ q ∧ q < s_to c s ∧ s_cod c q 0 = 0 ∧ s_cod c q 5 = 1 ∧ s_cod c q 1 = col) ∧ s_chosen c gv s col z = nI q := by
  have h0 := s_kok_ft h
  rcases s_chos_ok (c := c) (gv := gv) (col := col) (z := z) (f := s_from c s) (s_to c s - s_from c s) with h | ⟨q, h1, h2⟩
  · exact Or.inl h
  · exact Or.inr ⟨q, ⟨h1.1, by omega, h1.2.2⟩, h2⟩
theorem c_chosen {G : XE} (hG : x_Kn G) {B : XH} {I : Nat → Int32} {T : Int64} {S : Nat → Nat → Int32} {rd tx gv pl : Nat → Int32} (d : Nat) (w : Nat) (hw : I 3 = nI w) (hw9 : w < 9) (s : Nat) (hs : s < 6) (hko : s_kok (S w) s) (z : Bool) {x y : Int32} (hx : x = nI s) : x_M G mX11_chosen (d + 4) 0 0 [.ref 275, .int x, .int y, .int (b2 z)] (mset B I T S rd tx gv pl) (x_Ret (mset B I T S rd tx gv pl) (.int (s_chosen (S w) gv s y z))) x_noX := by
  refine X_M hG okX11_chosen rfl (L := [some (.ref 275), some (.int x), some (.int y), some (.int (b2 z)), none, none, none]) rfl (Nat.le_of_ble_eq_true rfl) (fun ad0 nb0 => ?_)
  obtain ⟨h1, h2, h3, h4⟩ := s_kok_ft hko
  have loop : x_W G mX11_chosen (x_Z G (d + 4) 0 0 ad0 nb0 (x_Ret (mset B I T S rd tx gv pl) (.int (s_chosen (S w) gv s y z))) x_noX) (mset B I T S rd tx gv pl) 0 0 101 [some (.ref 275), some (.int x), some (.int y), some (.int (b2 z)), some (.int (s_chos (S w) gv y z (s_from (S w) s) (s_to (S w) s - s_from (S w) s))), some (.int (nI (s_from (S w) s + (s_to (S w) s - s_from (S w) s)))), none] [] → ∀ (n k : Nat), k + n = (s_to (S w) s - s_from (S w) s) → x_W G mX11_chosen (x_Z G (d + 4) 0 0 ad0 nb0 (x_Ret (mset B I T S rd tx gv pl) (.int (s_chosen (S w) gv s y z))) x_noX) (mset B I T S rd tx gv pl) 0 0 12 [some (.ref 275), some (.int x), some (.int y), some (.int (b2 z)), some (.int (s_chos (S w) gv y z (s_from (S w) s) k)), some (.int (nI (s_from (S w) s + k))), none] [] := by
    intro K n
    induction n with
    | zero =>
      intro k e0 
      obtain rfl : k = (s_to (S w) s - s_from (S w) s) := by omega
      refine X_ld rfl rfl rfl rfl ?_
      refine X_ld rfl rfl rfl rfl ?_
      refine X_ld rfl rfl rfl rfl ?_
      refine X_push (v := .int 27) rfl (by decide +kernel) ?_
      refine X_mcall l_X11_X11_ofStatement (c_ofStatement hG (d + 2) w hw hw9 s 27 (by omega) hx rfl) rfl rfl rfl rfl (Nat.le_of_ble_eq_true rfl) (Nat.le_of_ble_eq_true rfl) (Nat.le_refl _) (Nat.le_of_ble_eq_true rfl) (Nat.le_of_ble_eq_true rfl) ?_
      refine X_icmp_ge rfl (fun c21 => ?_) (fun c21 => absurd ((n_le (a := s_to (S w) s) (b := s_from (S w) s + (s_to (S w) s - s_from (S w) s)) h4 rfl (by omega) (by omega)).mpr (by omega)) c21)
      exact K
    | succ n ih =>
      intro k e0 
      refine X_ld rfl rfl rfl rfl ?_
      refine X_ld rfl rfl rfl rfl ?_
      refine X_ld rfl rfl rfl rfl ?_
      refine X_push (v := .int 27) rfl (by decide +kernel) ?_
      refine X_mcall l_X11_X11_ofStatement (c_ofStatement hG (d + 2) w hw hw9 s 27 (by omega) hx rfl) rfl rfl rfl rfl (Nat.le_of_ble_eq_true rfl) (Nat.le_of_ble_eq_true rfl) (Nat.le_refl _) (Nat.le_of_ble_eq_true rfl) (Nat.le_of_ble_eq_true rfl) ?_
      refine X_icmp_ge rfl (fun c21 => absurd ((n_le (a := s_to (S w) s) (b := s_from (S w) s + k) h4 rfl (by omega) (by omega)).mp c21) (by omega)) (fun c21 => ?_)
      refine X_ld rfl rfl rfl rfl ?_
      refine X_ld rfl rfl rfl rfl ?_
      refine X_push (v := .int 0) rfl (by decide +kernel) ?_
      refine X_mcall l_X11_X11_ofCode (c_ofCode hG (d + 2) w hw hw9 (s_from (S w) s + k) 0 (by omega) rfl rfl) rfl rfl rfl rfl (Nat.le_of_ble_eq_true rfl) (Nat.le_of_ble_eq_true rfl) (Nat.le_refl _) (Nat.le_of_ble_eq_true rfl) (Nat.le_of_ble_eq_true rfl) ?_
      refine X_if_ne rfl (fun c31 => ?_) (fun c31 => ?_)
      · refine X_push (v := .int 0) rfl (by decide +kernel) ?_
        refine X_st rfl rfl rfl ?_
        refine X_ld rfl rfl rfl rfl ?_
        refine X_if_eq rfl (fun c65 => ?_) (fun c65 => absurd (by decide) c65)
        refine X_iinc rfl rfl rfl ?_
        refine X_goto rfl ?_
        have e : s_chos (S w) gv y z (s_from (S w) s) (k + 1) = s_chos (S w) gv y z (s_from (S w) s) k := (show s_pick (S w) gv y z (s_from (S w) s + k) (s_chos (S w) gv y z (s_from (S w) s) k) = _ from by unfold s_pick; rw [if_neg c31])
        refine X_loc (L' := [some (.ref 275), some (.int x), some (.int y), some (.int (b2 z)), some (.int (s_chos (S w) gv y z (s_from (S w) s) (k + 1))), some (.int (nI (s_from (S w) s + (k + 1)))), none]) ⟨rfl, rfl, rfl, rfl, congrArg Value.int e, congrArg Value.int (m_inc rfl).symm, trivial⟩ ?_
        exact ih (k + 1) (by omega)
      · refine X_ld rfl rfl rfl rfl ?_
        refine X_ld rfl rfl rfl rfl ?_
        refine X_push (v := .int 5) rfl (by decide +kernel) ?_
        refine X_mcall l_X11_X11_ofCode (c_ofCode hG (d + 2) w hw hw9 (s_from (S w) s + k) 5 (by omega) rfl rfl) rfl rfl rfl rfl (Nat.le_of_ble_eq_true rfl) (Nat.le_of_ble_eq_true rfl) (Nat.le_refl _) (Nat.le_of_ble_eq_true rfl) (Nat.le_of_ble_eq_true rfl) ?_
        refine X_push (v := .int 1) rfl (by decide +kernel) ?_
        refine X_icmp_ne rfl (fun c42 => ?_) (fun c42 => ?_)
        · refine X_push (v := .int 0) rfl (by decide +kernel) ?_
          refine X_st rfl rfl rfl ?_
          refine X_ld rfl rfl rfl rfl ?_
          refine X_if_eq rfl (fun c65 => ?_) (fun c65 => absurd (by decide) c65)
          refine X_iinc rfl rfl rfl ?_
          refine X_goto rfl ?_
          have e : s_chos (S w) gv y z (s_from (S w) s) (k + 1) = s_chos (S w) gv y z (s_from (S w) s) k := (show s_pick (S w) gv y z (s_from (S w) s + k) (s_chos (S w) gv y z (s_from (S w) s) k) = _ from by unfold s_pick; rw [if_pos c31, if_neg c42])
          refine X_loc (L' := [some (.ref 275), some (.int x), some (.int y), some (.int (b2 z)), some (.int (s_chos (S w) gv y z (s_from (S w) s) (k + 1))), some (.int (nI (s_from (S w) s + (k + 1)))), none]) ⟨rfl, rfl, rfl, rfl, congrArg Value.int e, congrArg Value.int (m_inc rfl).symm, trivial⟩ ?_
          exact ih (k + 1) (by omega)
        · refine X_ld rfl rfl rfl rfl ?_
          refine X_ld rfl rfl rfl rfl ?_
          refine X_push (v := .int 1) rfl (by decide +kernel) ?_
          refine X_mcall l_X11_X11_ofCode (c_ofCode hG (d + 2) w hw hw9 (s_from (S w) s + k) 1 (by omega) rfl rfl) rfl rfl rfl rfl (Nat.le_of_ble_eq_true rfl) (Nat.le_of_ble_eq_true rfl) (Nat.le_refl _) (Nat.le_of_ble_eq_true rfl) (Nat.le_of_ble_eq_true rfl) ?_
          refine X_ld rfl rfl rfl rfl ?_
          refine X_icmp_ne rfl (fun c53 => ?_) (fun c53 => ?_)
          · refine X_push (v := .int 0) rfl (by decide +kernel) ?_
            refine X_st rfl rfl rfl ?_
            refine X_ld rfl rfl rfl rfl ?_
            refine X_if_eq rfl (fun c65 => ?_) (fun c65 => absurd (by decide) c65)
            refine X_iinc rfl rfl rfl ?_
            refine X_goto rfl ?_
            have e : s_chos (S w) gv y z (s_from (S w) s) (k + 1) = s_chos (S w) gv y z (s_from (S w) s) k := (show s_pick (S w) gv y z (s_from (S w) s + k) (s_chos (S w) gv y z (s_from (S w) s) k) = _ from by unfold s_pick; rw [if_pos c31, if_pos c42, if_neg c53])
            refine X_loc (L' := [some (.ref 275), some (.int x), some (.int y), some (.int (b2 z)), some (.int (s_chos (S w) gv y z (s_from (S w) s) (k + 1))), some (.int (nI (s_from (S w) s + (k + 1)))), none]) ⟨rfl, rfl, rfl, rfl, congrArg Value.int e, congrArg Value.int (m_inc rfl).symm, trivial⟩ ?_
            exact ih (k + 1) (by omega)
          · refine X_push (v := .int 1) rfl (by decide +kernel) ?_
            refine X_goto rfl ?_
            refine X_st rfl rfl rfl ?_
            refine X_ld rfl rfl rfl rfl ?_
            refine X_if_eq rfl (fun c65 => absurd c65 (by decide)) (fun c65 => ?_)
            refine X_ld rfl rfl rfl rfl ?_
            refine X_push (v := .int (-1)) rfl (by decide +kernel) ?_
            refine X_icmp_eq rfl (fun c71 => ?_) (fun c71 => ?_)
            · refine X_ld rfl rfl rfl rfl ?_
              refine X_st rfl rfl rfl ?_
              refine X_iinc rfl rfl rfl ?_
              refine X_goto rfl ?_
              have e : s_chos (S w) gv y z (s_from (S w) s) (k + 1) = nI (s_from (S w) s + k) := (show s_pick (S w) gv y z (s_from (S w) s + k) (s_chos (S w) gv y z (s_from (S w) s) k) = _ from by unfold s_pick; rw [if_pos c31, if_pos c42, if_pos c53, if_pos c71])
              refine X_loc (L' := [some (.ref 275), some (.int x), some (.int y), some (.int (b2 z)), some (.int (s_chos (S w) gv y z (s_from (S w) s) (k + 1))), some (.int (nI (s_from (S w) s + (k + 1)))), none]) ⟨rfl, rfl, rfl, rfl, congrArg Value.int e, congrArg Value.int (m_inc rfl).symm, trivial⟩ ?_
              exact ih (k + 1) (by omega)
            · obtain ⟨q, hq1, hq2⟩ := (s_chos_ok k).resolve_left c71
              refine X_ld rfl rfl rfl rfl ?_
              refine X_ld rfl rfl rfl rfl ?_
              refine X_ld rfl rfl rfl rfl ?_
              refine X_mcall l_X11_X11_estimate (c_estimate hG d w hw hw9 (s_from (S w) s + k) (by omega) (hko.2 _ (by omega) (by omega) c31) z rfl) rfl rfl rfl rfl (Nat.le_of_ble_eq_true rfl) (Nat.le_of_ble_eq_true rfl) (Nat.le_refl _) (Nat.le_of_ble_eq_true rfl) (Nat.le_of_ble_eq_true rfl) ?_
              refine X_ld rfl rfl rfl rfl ?_
              refine X_ld rfl rfl rfl rfl ?_
              refine X_ld rfl rfl rfl rfl ?_
              refine X_mcall l_X11_X11_estimate (c_estimate hG d w hw hw9 q (by omega) (hko.2 _ (by omega) (by omega) hq1.2.2.1) z hq2) rfl rfl rfl rfl (Nat.le_of_ble_eq_true rfl) (Nat.le_of_ble_eq_true rfl) (Nat.le_refl _) (Nat.le_of_ble_eq_true rfl) (Nat.le_of_ble_eq_true rfl) ?_
              refine X_icmp_ge rfl (fun c88 => ?_) (fun c88 => ?_)
              · refine X_iinc rfl rfl rfl ?_
                refine X_goto rfl ?_
                have e : s_chos (S w) gv y z (s_from (S w) s) (k + 1) = s_chos (S w) gv y z (s_from (S w) s) k := (show s_pick (S w) gv y z (s_from (S w) s + k) (s_chos (S w) gv y z (s_from (S w) s) k) = _ from by unfold s_pick; rw [show (s_chos (S w) gv y z (s_from (S w) s) k).toNatClampNeg = q by rw [hq2]; exact nI_clamp (by omega)]; rw [if_pos c31, if_pos c42, if_pos c53, if_neg c71, if_neg (Int32.not_lt.mpr c88)])
                refine X_loc (L' := [some (.ref 275), some (.int x), some (.int y), some (.int (b2 z)), some (.int (s_chos (S w) gv y z (s_from (S w) s) (k + 1))), some (.int (nI (s_from (S w) s + (k + 1)))), none]) ⟨rfl, rfl, rfl, rfl, congrArg Value.int e, congrArg Value.int (m_inc rfl).symm, trivial⟩ ?_
                exact ih (k + 1) (by omega)
              · refine X_ld rfl rfl rfl rfl ?_
                refine X_st rfl rfl rfl ?_
                refine X_iinc rfl rfl rfl ?_
                refine X_goto rfl ?_
                have e : s_chos (S w) gv y z (s_from (S w) s) (k + 1) = nI (s_from (S w) s + k) := (show s_pick (S w) gv y z (s_from (S w) s + k) (s_chos (S w) gv y z (s_from (S w) s) k) = _ from by unfold s_pick; rw [show (s_chos (S w) gv y z (s_from (S w) s) k).toNatClampNeg = q by rw [hq2]; exact nI_clamp (by omega)]; rw [if_pos c31, if_pos c42, if_pos c53, if_neg c71, if_pos (Int32.not_le.mp c88)])
                refine X_loc (L' := [some (.ref 275), some (.int x), some (.int y), some (.int (b2 z)), some (.int (s_chos (S w) gv y z (s_from (S w) s) (k + 1))), some (.int (nI (s_from (S w) s + (k + 1)))), none]) ⟨rfl, rfl, rfl, rfl, congrArg Value.int e, congrArg Value.int (m_inc rfl).symm, trivial⟩ ?_
                exact ih (k + 1) (by omega)
  refine X_push (v := .int (-1)) rfl (by decide +kernel) ?_
  refine X_st rfl rfl rfl ?_
  refine X_ld rfl rfl rfl rfl ?_
  refine X_ld rfl rfl rfl rfl ?_
  refine X_push (v := .int 26) rfl (by decide +kernel) ?_
  refine X_mcall l_X11_X11_ofStatement (c_ofStatement hG (d + 2) w hw hw9 s 26 (by omega) hx rfl) rfl rfl rfl rfl (Nat.le_of_ble_eq_true rfl) (Nat.le_of_ble_eq_true rfl) (Nat.le_refl _) (Nat.le_of_ble_eq_true rfl) (Nat.le_of_ble_eq_true rfl) ?_
  refine X_st rfl rfl rfl ?_
  refine X_loc (L' := [some (.ref 275), some (.int x), some (.int y), some (.int (b2 z)), some (.int (s_chos (S w) gv y z (s_from (S w) s) 0)), some (.int (nI (s_from (S w) s + 0))), none]) ⟨rfl, rfl, rfl, rfl, rfl, congrArg Value.int h3.symm, trivial⟩ ?_
  refine loop ?_ _ 0 (Nat.zero_add _)
  refine X_ld rfl rfl rfl rfl ?_
  exact X_iret rfl rfl ⟨rfl, rfl⟩ (Nat.le_of_ble_eq_true rfl) (Nat.le_of_ble_eq_true rfl)
def s_cost1 (c gv : Nat → Int32) (s j : Nat) (p : Int32) (z : Bool) : Int32 :=
  if s_col c j 9 = 1 then (if s_chosen c gv s p z = -1 then -1 else c 5 + c 6 * (s_est c gv (s_chosen c gv s p z).toNatClampNeg z * s_st c s (21 + j) / 100)) else -1
/-- what a plan costs; -1 -/
def s_cost (c gv : Nat → Int32) (s : Nat) (p : Int32) (z : Bool) : Int32 := if p = -1 then c 4 * c 8 else s_cost1 c gv s p.toNatClampNeg p z
theorem c_costOf {G : XE} (hG : x_Kn G) {B : XH} {I : Nat → Int32} {T : Int64} {S : Nat → Nat → Int32} {rd tx gv pl : Nat → Int32} (d : Nat) (w : Nat) (hw : I 3 = nI w) (hw9 : w < 9) (s : Nat) (hs : s < 6) (hko : s_kok (S w) s) (z : Bool) {x p : Int32} (hx : x = nI s) (hp : p = -1 ∨ ∃ j, j < 5 ∧ p = nI j) : x_M G mX11_costOf (d + 5) 0 0 [.ref 275, .int x, .int p, .int (b2 z)] (mset B I T S rd tx gv pl) (x_Ret (mset B I T S rd tx gv pl) (.int (s_cost (S w) gv s p z))) x_noX := by
  refine X_M hG okX11_costOf rfl (L := [some (.ref 275), some (.int x), some (.int p), some (.int (b2 z)), none]) rfl (Nat.le_of_ble_eq_true rfl) (fun ad0 nb0 => ?_)
  refine X_ld rfl rfl rfl rfl ?_
  refine X_push (v := .int (-1)) rfl (by decide +kernel) ?_
  refine X_icmp_ne rfl (fun c2 => ?_) (fun c2 => ?_)
  · obtain ⟨j, hj, hpj⟩ := hp.resolve_left c2
    have ej : p.toNatClampNeg = j := by rw [hpj]; exact nI_clamp (by omega)
    refine X_ld rfl rfl rfl rfl ?_
    refine X_ld rfl rfl rfl rfl ?_
    refine X_push (v := .int 9) rfl (by decide +kernel) ?_
    refine X_mcall l_X11_X11_ofColumn (c_ofColumn hG (d + 3) w hw hw9 j 9 (by omega) hpj rfl) rfl rfl rfl rfl (Nat.le_of_ble_eq_true rfl) (Nat.le_of_ble_eq_true rfl) (Nat.le_refl _) (Nat.le_of_ble_eq_true rfl) (Nat.le_of_ble_eq_true rfl) ?_
    refine X_push (v := .int 1) rfl (by decide +kernel) ?_
    refine X_icmp_ne rfl (fun c26 => ?_) (fun c26 => ?_)
    · refine X_push (v := .int (-1)) rfl (by decide +kernel) ?_
      refine X_st rfl rfl rfl ?_
      refine X_ld rfl rfl rfl rfl ?_
      refine X_push (v := .int (-1)) rfl (by decide +kernel) ?_
      refine X_icmp_ne rfl (fun c45 => absurd (by decide) c45) (fun c45 => ?_)
      refine X_push (v := .int (-1)) rfl (by decide +kernel) ?_
      refine X_goto rfl ?_
      exact X_iret rfl rfl ⟨rfl, by unfold s_cost s_cost1; rw [if_neg c2, ej, if_neg c26]⟩ (Nat.le_of_ble_eq_true rfl) (Nat.le_of_ble_eq_true rfl)
    · refine X_ld rfl rfl rfl rfl ?_
      refine X_ld rfl rfl rfl rfl ?_
      refine X_ld rfl rfl rfl rfl ?_
      refine X_ld rfl rfl rfl rfl ?_
      refine X_mcall l_X11_X11_chosen (c_chosen hG d w hw hw9 s hs hko z hx) rfl rfl rfl rfl (Nat.le_of_ble_eq_true rfl) (Nat.le_of_ble_eq_true rfl) (Nat.le_refl _) (Nat.le_of_ble_eq_true rfl) (Nat.le_of_ble_eq_true rfl) ?_
      refine X_goto rfl ?_
      refine X_st rfl rfl rfl ?_
      refine X_ld rfl rfl rfl rfl ?_
      refine X_push (v := .int (-1)) rfl (by decide +kernel) ?_
      refine X_icmp_ne rfl (fun c45 => ?_) (fun c45 => ?_)
      · obtain ⟨q, hq1, hq2⟩ := (s_chosen_ok (gv := gv) (col := p) (z := z) hko).resolve_left c45
        have hq3 := s_kok_ft hko
        have eq : (s_chosen (S w) gv s p z).toNatClampNeg = q := by rw [hq2]; exact nI_clamp (by omega)
        refine X_ld rfl rfl rfl rfl ?_
        refine X_push (v := .int 5) rfl (by decide +kernel) ?_
        refine X_mcall l_X11_X11_get (c_get hG (d + 4) w hw hw9 5 (by omega) rfl) rfl rfl rfl rfl (Nat.le_of_ble_eq_true rfl) (Nat.le_of_ble_eq_true rfl) (Nat.le_refl _) (Nat.le_of_ble_eq_true rfl) (Nat.le_of_ble_eq_true rfl) ?_
        refine X_ld rfl rfl rfl rfl ?_
        refine X_push (v := .int 6) rfl (by decide +kernel) ?_
        refine X_mcall l_X11_X11_get (c_get hG (d + 4) w hw hw9 6 (by omega) rfl) rfl rfl rfl rfl (Nat.le_of_ble_eq_true rfl) (Nat.le_of_ble_eq_true rfl) (Nat.le_refl _) (Nat.le_of_ble_eq_true rfl) (Nat.le_of_ble_eq_true rfl) ?_
        refine X_ld rfl rfl rfl rfl ?_
        refine X_ld rfl rfl rfl rfl ?_
        refine X_ld rfl rfl rfl rfl ?_
        refine X_mcall l_X11_X11_estimate (c_estimate hG (d + 1) w hw hw9 q (by omega) (hko.2 q hq1.1 hq1.2.1 hq1.2.2.1) z hq2) rfl rfl rfl rfl (Nat.le_of_ble_eq_true rfl) (Nat.le_of_ble_eq_true rfl) (Nat.le_refl _) (Nat.le_of_ble_eq_true rfl) (Nat.le_of_ble_eq_true rfl) ?_
        refine X_ld rfl rfl rfl rfl ?_
        refine X_ld rfl rfl rfl rfl ?_
        refine X_push (v := .int 21) rfl (by decide +kernel) ?_
        refine X_ld rfl rfl rfl rfl ?_
        refine X_bin rfl rfl ?_
        refine X_mcall l_X11_X11_ofStatement (c_ofStatement hG (d + 3) w hw hw9 s (21 + j) (by omega) hx (m_add rfl hpj)) rfl rfl rfl rfl (Nat.le_of_ble_eq_true rfl) (Nat.le_of_ble_eq_true rfl) (Nat.le_refl _) (Nat.le_of_ble_eq_true rfl) (Nat.le_of_ble_eq_true rfl) ?_
        refine X_bin rfl rfl ?_
        refine X_push (v := .int 100) rfl (by decide +kernel) ?_
        refine X_idiv rfl (by decide) ?_
        refine X_bin rfl rfl ?_
        refine X_bin rfl rfl ?_
        exact X_iret rfl rfl ⟨rfl, by unfold s_cost s_cost1; rw [if_neg c2, ej, if_pos c26, if_neg c45, eq]⟩ (Nat.le_of_ble_eq_true rfl) (Nat.le_of_ble_eq_true rfl)
      · refine X_push (v := .int (-1)) rfl (by decide +kernel) ?_
        refine X_goto rfl ?_
        exact X_iret rfl rfl ⟨rfl, by unfold s_cost s_cost1; rw [if_neg c2, ej, if_pos c26, if_pos c45]⟩ (Nat.le_of_ble_eq_true rfl) (Nat.le_of_ble_eq_true rfl)
  · refine X_ld rfl rfl rfl rfl ?_
    refine X_push (v := .int 4) rfl (by decide +kernel) ?_
    refine X_mcall l_X11_X11_get (c_get hG (d + 4) w hw hw9 4 (by omega) rfl) rfl rfl rfl rfl (Nat.le_of_ble_eq_true rfl) (Nat.le_of_ble_eq_true rfl) (Nat.le_refl _) (Nat.le_of_ble_eq_true rfl) (Nat.le_of_ble_eq_true rfl) ?_
    refine X_ld rfl rfl rfl rfl ?_
    refine X_push (v := .int 8) rfl (by decide +kernel) ?_
    refine X_mcall l_X11_X11_get (c_get hG (d + 4) w hw hw9 8 (by omega) rfl) rfl rfl rfl rfl (Nat.le_of_ble_eq_true rfl) (Nat.le_of_ble_eq_true rfl) (Nat.le_refl _) (Nat.le_of_ble_eq_true rfl) (Nat.le_of_ble_eq_true rfl) ?_
    refine X_bin rfl rfl ?_
    exact X_iret rfl rfl ⟨rfl, by unfold s_cost; rw [if_pos c2]⟩ (Nat.le_of_ble_eq_true rfl) (Nat.le_of_ble_eq_true rfl)
def s_bst1 (q : Int32 × Int32) (n : Nat) (x : Int32) : Int32 × Int32 := if x = -1 then q else if x < q.2 then (nI n, x) else q
def s_bst (c gv : Nat → Int32) (s : Nat) (z : Bool) : Nat → Int32 × Int32
  | 0 => (-1, s_cost c gv s (-1) z)
  | n + 1 => s_bst1 (s_bst c gv s z n) n (s_cost c gv s (nI n) z)
/-- the best of the plans by m columns and the scan -/
def s_best (c gv : Nat → Int32) (s : Nat) (m : Nat) (z : Bool) : Int32 := (s_bst c gv s z m).1
theorem s_best_ok {c gv : Nat → Int32} {s : Nat} {z : Bool} : ∀ m, s_best c gv s m z = -1 ∨ ∃ j, j < m ∧ s_best c gv s m z = nI j
  | 0 => Or.inl rfl
  | n + 1 => by
    have h0 := s_best_ok (c := c) (gv := gv) (s := s) (z := z) n
    unfold s_best at h0 ⊢
    show (s_bst1 _ _ _).1 = -1 ∨ ∃ j, j < n + 1 ∧ (s_bst1 _ _ _).1 = nI j
    unfold s_bst1
    have hb : (s_bst c gv s z n).1 = -1 ∨ ∃ j, j < n + 1 ∧ (s_bst c gv s z n).1 = nI j := by
      rcases h0 with h | ⟨j, h1, h2⟩
      · exact Or.inl h
      · exact Or.inr ⟨j, by omega, h2⟩
    repeat' split
    all_goals first | exact hb | exact Or.inr ⟨n, by omega, rfl⟩
theorem c_bestPlan {G : XE} (hG : x_Kn G) {B : XH} {I : Nat → Int32} {T : Int64} {S : Nat → Nat → Int32} {rd tx gv pl : Nat → Int32} (d : Nat) (w : Nat) (hw : I 3 = nI w) (hw9 : w < 9) (m : Nat) (hcm : S w 0 = nI m) (hm : m ≤ 5) (s : Nat) (hs : s < 6) (hko : s_kok (S w) s) (z : Bool) {x : Int32} (hx : x = nI s) : x_M G mX11_bestPlan (d + 6) 0 0 [.ref 275, .int x, .int (b2 z)] (mset B I T S rd tx gv pl) (x_Ret (mset B I T S rd tx gv pl) (.int (s_best (S w) gv s m z))) x_noX := by
  refine X_M hG okX11_bestPlan rfl (L := [some (.ref 275), some (.int x), some (.int (b2 z)), none, none, none, none]) rfl (Nat.le_of_ble_eq_true rfl) (fun ad0 nb0 => ?_)
  have loop : x_W G mX11_bestPlan (x_Z G (d + 6) 0 0 ad0 nb0 (x_Ret (mset B I T S rd tx gv pl) (.int (s_best (S w) gv s m z))) x_noX) (mset B I T S rd tx gv pl) 0 0 63 [some (.ref 275), some (.int x), some (.int (b2 z)), some (.int (s_bst (S w) gv s z m).1), some (.int (s_bst (S w) gv s z m).2), some (.int (nI m)), none] [] → ∀ (n k : Nat), k + n = m → x_W G mX11_bestPlan (x_Z G (d + 6) 0 0 ad0 nb0 (x_Ret (mset B I T S rd tx gv pl) (.int (s_best (S w) gv s m z))) x_noX) (mset B I T S rd tx gv pl) 0 0 14 [some (.ref 275), some (.int x), some (.int (b2 z)), some (.int (s_bst (S w) gv s z k).1), some (.int (s_bst (S w) gv s z k).2), some (.int (nI k)), none] [] := by
    intro K n
    induction n with
    | zero =>
      intro k e0 
      obtain rfl : k = m := by omega
      refine X_ld rfl rfl rfl rfl ?_
      refine X_ld rfl rfl rfl rfl ?_
      refine X_push (v := .int 0) rfl (by decide +kernel) ?_
      refine X_mcall l_X11_X11_get (c_get hG (d + 5) w hw hw9 0 (by omega) rfl) rfl rfl rfl rfl (Nat.le_of_ble_eq_true rfl) (Nat.le_of_ble_eq_true rfl) (Nat.le_refl _) (Nat.le_of_ble_eq_true rfl) (Nat.le_of_ble_eq_true rfl) ?_
      refine X_icmp_ge rfl (fun c21 => ?_) (fun c21 => absurd ((n_le (a := m) (b := m) hcm rfl (by omega) (by omega)).mpr (by omega)) c21)
      exact K
    | succ n ih =>
      intro k e0 
      refine X_ld rfl rfl rfl rfl ?_
      refine X_ld rfl rfl rfl rfl ?_
      refine X_push (v := .int 0) rfl (by decide +kernel) ?_
      refine X_mcall l_X11_X11_get (c_get hG (d + 5) w hw hw9 0 (by omega) rfl) rfl rfl rfl rfl (Nat.le_of_ble_eq_true rfl) (Nat.le_of_ble_eq_true rfl) (Nat.le_refl _) (Nat.le_of_ble_eq_true rfl) (Nat.le_of_ble_eq_true rfl) ?_
      refine X_icmp_ge rfl (fun c21 => absurd ((n_le (a := m) (b := k) hcm rfl (by omega) (by omega)).mp c21) (by omega)) (fun c21 => ?_)
      refine X_ld rfl rfl rfl rfl ?_
      refine X_ld rfl rfl rfl rfl ?_
      refine X_ld rfl rfl rfl rfl ?_
      refine X_ld rfl rfl rfl rfl ?_
      refine X_mcall l_X11_X11_costOf (c_costOf hG d w hw hw9 s hs hko z hx (Or.inr ⟨k, by omega, rfl⟩)) rfl rfl rfl rfl (Nat.le_of_ble_eq_true rfl) (Nat.le_of_ble_eq_true rfl) (Nat.le_refl _) (Nat.le_of_ble_eq_true rfl) (Nat.le_of_ble_eq_true rfl) ?_
      refine X_st rfl rfl rfl ?_
      refine X_ld rfl rfl rfl rfl ?_
      refine X_push (v := .int (-1)) rfl (by decide +kernel) ?_
      refine X_icmp_eq rfl (fun c37 => ?_) (fun c37 => ?_)
      · refine X_iinc rfl rfl rfl ?_
        refine X_goto rfl ?_
        have e : s_bst (S w) gv s z (k + 1) = s_bst (S w) gv s z k := (show s_bst1 (s_bst (S w) gv s z k) k (s_cost (S w) gv s (nI k) z) = _ from by unfold s_bst1; rw [if_pos c37])
        refine X_loc (L' := [some (.ref 275), some (.int x), some (.int (b2 z)), some (.int (s_bst (S w) gv s z (k + 1)).1), some (.int (s_bst (S w) gv s z (k + 1)).2), some (.int (nI (k + 1))), none]) ⟨rfl, rfl, rfl, congrArg (fun q => Value.int q.1) e, congrArg (fun q => Value.int q.2) e, congrArg Value.int (m_inc rfl).symm, trivial⟩ ?_
        exact ih (k + 1) (by omega)
      · refine X_ld rfl rfl rfl rfl ?_
        refine X_ld rfl rfl rfl rfl ?_
        refine X_icmp_lt rfl (fun c44 => ?_) (fun c44 => ?_)
        · refine X_ld rfl rfl rfl rfl ?_
          refine X_st rfl rfl rfl ?_
          refine X_ld rfl rfl rfl rfl ?_
          refine X_st rfl rfl rfl ?_
          refine X_iinc rfl rfl rfl ?_
          refine X_goto rfl ?_
          have e : s_bst (S w) gv s z (k + 1) = (nI k, s_cost (S w) gv s (nI k) z) := (show s_bst1 (s_bst (S w) gv s z k) k (s_cost (S w) gv s (nI k) z) = _ from by unfold s_bst1; rw [if_neg c37, if_pos c44])
          refine X_loc (L' := [some (.ref 275), some (.int x), some (.int (b2 z)), some (.int (s_bst (S w) gv s z (k + 1)).1), some (.int (s_bst (S w) gv s z (k + 1)).2), some (.int (nI (k + 1))), none]) ⟨rfl, rfl, rfl, congrArg (fun q => Value.int q.1) e, congrArg (fun q => Value.int q.2) e, congrArg Value.int (m_inc rfl).symm, trivial⟩ ?_
          exact ih (k + 1) (by omega)
        · refine X_goto rfl ?_
          refine X_iinc rfl rfl rfl ?_
          refine X_goto rfl ?_
          have e : s_bst (S w) gv s z (k + 1) = s_bst (S w) gv s z k := (show s_bst1 (s_bst (S w) gv s z k) k (s_cost (S w) gv s (nI k) z) = _ from by unfold s_bst1; rw [if_neg c37, if_neg c44])
          refine X_loc (L' := [some (.ref 275), some (.int x), some (.int (b2 z)), some (.int (s_bst (S w) gv s z (k + 1)).1), some (.int (s_bst (S w) gv s z (k + 1)).2), some (.int (nI (k + 1))), none]) ⟨rfl, rfl, rfl, congrArg (fun q => Value.int q.1) e, congrArg (fun q => Value.int q.2) e, congrArg Value.int (m_inc rfl).symm, trivial⟩ ?_
          exact ih (k + 1) (by omega)
  refine X_push (v := .int (-1)) rfl (by decide +kernel) ?_
  refine X_st rfl rfl rfl ?_
  refine X_ld rfl rfl rfl rfl ?_
  refine X_ld rfl rfl rfl rfl ?_
  refine X_push (v := .int (-1)) rfl (by decide +kernel) ?_
  refine X_ld rfl rfl rfl rfl ?_
  refine X_mcall l_X11_X11_costOf (c_costOf hG d w hw hw9 s hs hko z hx (Or.inl rfl)) rfl rfl rfl rfl (Nat.le_of_ble_eq_true rfl) (Nat.le_of_ble_eq_true rfl) (Nat.le_refl _) (Nat.le_of_ble_eq_true rfl) (Nat.le_of_ble_eq_true rfl) ?_
  refine X_st rfl rfl rfl ?_
  refine X_push (v := .int 0) rfl (by decide +kernel) ?_
  refine X_st rfl rfl rfl ?_
  refine X_loc (L' := [some (.ref 275), some (.int x), some (.int (b2 z)), some (.int (s_bst (S w) gv s z 0).1), some (.int (s_bst (S w) gv s z 0).2), some (.int (nI 0)), none]) ⟨rfl, rfl, rfl, rfl, rfl, rfl, trivial⟩ ?_
  refine loop ?_ _ 0 (Nat.zero_add _)
  refine X_ld rfl rfl rfl rfl ?_
  exact X_iret rfl rfl ⟨rfl, rfl⟩ (Nat.le_of_ble_eq_true rfl) (Nat.le_of_ble_eq_true rfl)
def s_cmp (sg a b : Int32) : Bool := if sg = 60 then decide (a < b) else if sg = 61 then decide (a = b) else decide (b < a)
def s_rhs (c gv : Nat → Int32) (k l : Nat) : Int32 :=
  if s_cod c k 3 = 0 then s_cod c k 4 else if s_cod c k 3 = 1 then s_val c l (s_cod c k 4).toNatClampNeg else gv (s_cod c k 4).toNatClampNeg
/-- does comparison k hold in line l -/
def s_tru (c gv : Nat → Int32) (k l : Nat) : Bool := s_cmp (s_cod c k 2) (s_val c l (s_cod c k 1).toNatClampNeg) (s_rhs c gv k l)
/-- a comparison that can be asked -/
def s_tok (c : Nat → Int32) (k : Nat) : Prop :=
  (∃ j, j < 5 ∧ s_cod c k 1 = nI j) ∧ (s_cod c k 3 = 1 → ∃ j, j < 5 ∧ s_cod c k 4 = nI j) ∧ (¬ s_cod c k 3 = 0 → ¬ s_cod c k 3 = 1 → ∃ h, h < 4 ∧ s_cod c k 4 = nI h)
theorem c_isTrue {G : XE} (hG : x_Kn G) {B : XH} {I : Nat → Int32} {T : Int64} {S : Nat → Nat → Int32} {rd tx gv pl : Nat → Int32} (d : Nat) (w : Nat) (hw : I 3 = nI w) (hw9 : w < 9) (k l : Nat) (hk : k < 324) (hl : l < 41) (ht : s_tok (S w) k) {x y : Int32} (hx : x = nI k) (hy : y = nI l) : x_M G mX11_isTrue (d + 3) 0 0 [.ref 275, .int x, .int y] (mset B I T S rd tx gv pl) (x_Ret (mset B I T S rd tx gv pl) (.int (b2 (s_tru (S w) gv k l)))) x_noX := by
  refine X_M hG okX11_isTrue rfl (L := [some (.ref 275), some (.int x), some (.int y), none, none, none, none, none]) rfl (Nat.le_of_ble_eq_true rfl) (fun ad0 nb0 => ?_)
  obtain ⟨⟨j, hj, hof⟩, hk1, hk2⟩ := ht
  have ej : (s_cod (S w) k 1).toNatClampNeg = j := by rw [hof]; exact nI_clamp (by omega)
  have tail : ∀ b, b = s_rhs (S w) gv k l → x_W G mX11_isTrue (x_Z G (d + 3) 0 0 ad0 nb0 (x_Ret (mset B I T S rd tx gv pl) (.int (b2 (s_tru (S w) gv k l)))) x_noX) (mset B I T S rd tx gv pl) 0 0 67 [some (.ref 275), some (.int x), some (.int y), some (.int (S w (75 + 5 * l + j))), none, none, none, none] [.int b] := by
    intro b hb
    refine X_st rfl rfl rfl ?_
    refine X_ld rfl rfl rfl rfl ?_
    refine X_ld rfl rfl rfl rfl ?_
    refine X_push (v := .int 2) rfl (by decide +kernel) ?_
    refine X_mcall l_X11_X11_ofCode (c_ofCode hG (d + 1) w hw hw9 k 2 (by omega) hx rfl) rfl rfl rfl rfl (Nat.le_of_ble_eq_true rfl) (Nat.le_of_ble_eq_true rfl) (Nat.le_refl _) (Nat.le_of_ble_eq_true rfl) (Nat.le_of_ble_eq_true rfl) ?_
    refine X_st rfl rfl rfl ?_
    refine X_ld rfl rfl rfl rfl ?_
    refine X_push (v := .int 60) rfl (by decide +kernel) ?_
    refine X_icmp_ne rfl (fun c81 => ?_) (fun c81 => ?_)
    · refine X_ld rfl rfl rfl rfl ?_
      refine X_push (v := .int 61) rfl (by decide +kernel) ?_
      refine X_icmp_ne rfl (fun c102 => ?_) (fun c102 => ?_)
      · refine X_ld rfl rfl rfl rfl ?_
        refine X_ld rfl rfl rfl rfl ?_
        refine X_icmp_le rfl (fun c122 => ?_) (fun c122 => ?_)
        · refine X_push (v := .int 0) rfl (by decide +kernel) ?_
          exact X_zret rfl rfl rfl ⟨rfl, by unfold s_tru s_cmp; rw [ej, ← hb, if_neg c81, if_neg c102, decide_eq_false (Int32.not_lt.mpr c122)]; rfl⟩ (Nat.le_of_ble_eq_true rfl) (Nat.le_of_ble_eq_true rfl)
        · refine X_push (v := .int 1) rfl (by decide +kernel) ?_
          refine X_goto rfl ?_
          exact X_zret rfl rfl rfl ⟨rfl, by unfold s_tru s_cmp; rw [ej, ← hb, if_neg c81, if_neg c102, decide_eq_true (Int32.not_le.mp c122)]; rfl⟩ (Nat.le_of_ble_eq_true rfl) (Nat.le_of_ble_eq_true rfl)
      · refine X_ld rfl rfl rfl rfl ?_
        refine X_ld rfl rfl rfl rfl ?_
        refine X_icmp_ne rfl (fun c108 => ?_) (fun c108 => ?_)
        · refine X_push (v := .int 0) rfl (by decide +kernel) ?_
          refine X_goto rfl ?_
          exact X_zret rfl rfl rfl ⟨rfl, by unfold s_tru s_cmp; rw [ej, ← hb, if_neg c81, if_pos c102, decide_eq_false c108]; rfl⟩ (Nat.le_of_ble_eq_true rfl) (Nat.le_of_ble_eq_true rfl)
        · refine X_push (v := .int 1) rfl (by decide +kernel) ?_
          refine X_goto rfl ?_
          exact X_zret rfl rfl rfl ⟨rfl, by unfold s_tru s_cmp; rw [ej, ← hb, if_neg c81, if_pos c102, decide_eq_true c108]; rfl⟩ (Nat.le_of_ble_eq_true rfl) (Nat.le_of_ble_eq_true rfl)
    · refine X_ld rfl rfl rfl rfl ?_
      refine X_ld rfl rfl rfl rfl ?_
      refine X_icmp_ge rfl (fun c87 => ?_) (fun c87 => ?_)
      · refine X_push (v := .int 0) rfl (by decide +kernel) ?_
        refine X_goto rfl ?_
        exact X_zret rfl rfl rfl ⟨rfl, by unfold s_tru s_cmp; rw [ej, ← hb, if_pos c81, decide_eq_false (Int32.not_lt.mpr c87)]; rfl⟩ (Nat.le_of_ble_eq_true rfl) (Nat.le_of_ble_eq_true rfl)
      · refine X_push (v := .int 1) rfl (by decide +kernel) ?_
        refine X_goto rfl ?_
        exact X_zret rfl rfl rfl ⟨rfl, by unfold s_tru s_cmp; rw [ej, ← hb, if_pos c81, decide_eq_true (Int32.not_le.mp c87)]; rfl⟩ (Nat.le_of_ble_eq_true rfl) (Nat.le_of_ble_eq_true rfl)
  refine X_ld rfl rfl rfl rfl ?_
  refine X_ld rfl rfl rfl rfl ?_
  refine X_ld rfl rfl rfl rfl ?_
  refine X_ld rfl rfl rfl rfl ?_
  refine X_push (v := .int 1) rfl (by decide +kernel) ?_
  refine X_mcall l_X11_X11_ofCode (c_ofCode hG (d + 1) w hw hw9 k 1 (by omega) hx rfl) rfl rfl rfl rfl (Nat.le_of_ble_eq_true rfl) (Nat.le_of_ble_eq_true rfl) (Nat.le_refl _) (Nat.le_of_ble_eq_true rfl) (Nat.le_of_ble_eq_true rfl) ?_
  refine X_scall l_X11_X11_valueAt (c_valueAt hG (d + 2) ) rfl rfl rfl (Nat.le_of_ble_eq_true rfl) (Nat.le_of_ble_eq_true rfl) (Nat.le_refl _) (Nat.le_of_ble_eq_true rfl) (Nat.le_of_ble_eq_true rfl) ?_
  refine X_mcall l_X11_X11_get (c_get hG (d + 2) w hw hw9 (75 + 5 * l + j) (by omega) (m_valueAt hy hof)) rfl rfl rfl rfl (Nat.le_of_ble_eq_true rfl) (Nat.le_of_ble_eq_true rfl) (Nat.le_refl _) (Nat.le_of_ble_eq_true rfl) (Nat.le_of_ble_eq_true rfl) ?_
  refine X_st rfl rfl rfl ?_
  refine X_ld rfl rfl rfl rfl ?_
  refine X_ld rfl rfl rfl rfl ?_
  refine X_push (v := .int 3) rfl (by decide +kernel) ?_
  refine X_mcall l_X11_X11_ofCode (c_ofCode hG (d + 1) w hw hw9 k 3 (by omega) hx rfl) rfl rfl rfl rfl (Nat.le_of_ble_eq_true rfl) (Nat.le_of_ble_eq_true rfl) (Nat.le_refl _) (Nat.le_of_ble_eq_true rfl) (Nat.le_of_ble_eq_true rfl) ?_
  refine X_st rfl rfl rfl ?_
  refine X_ld rfl rfl rfl rfl ?_
  refine X_ld rfl rfl rfl rfl ?_
  refine X_push (v := .int 4) rfl (by decide +kernel) ?_
  refine X_mcall l_X11_X11_ofCode (c_ofCode hG (d + 1) w hw hw9 k 4 (by omega) hx rfl) rfl rfl rfl rfl (Nat.le_of_ble_eq_true rfl) (Nat.le_of_ble_eq_true rfl) (Nat.le_refl _) (Nat.le_of_ble_eq_true rfl) (Nat.le_of_ble_eq_true rfl) ?_
  refine X_st rfl rfl rfl ?_
  refine X_ld rfl rfl rfl rfl ?_
  refine X_if_ne rfl (fun c33 => ?_) (fun c33 => ?_)
  · refine X_ld rfl rfl rfl rfl ?_
    refine X_push (v := .int 1) rfl (by decide +kernel) ?_
    refine X_icmp_ne rfl (fun c44 => ?_) (fun c44 => ?_)
    · obtain ⟨h, hh1, hh2⟩ := hk2 c33 c44
      refine X_ld rfl rfl rfl rfl ?_
      refine X_get f_X11_23 rfl rfl rfl ?_
      refine X_ld rfl rfl rfl rfl ?_
      refine X_ildn (n := 4) h hh2 (by omega) (by omega) rfl rfl ?_
      refine X_loc (L' := [some (.ref 275), some (.int x), some (.int y), some (.int (S w (75 + 5 * l + j))), none, none, none, none]) ⟨rfl, rfl, rfl, rfl, trivial⟩ ?_
      exact tail _ (by unfold s_rhs; rw [if_neg c33, if_neg c44, show (s_cod (S w) k 4).toNatClampNeg = h by rw [hh2]; exact nI_clamp (by omega)])
    · obtain ⟨j2, hj1, hj2⟩ := hk1 c44
      refine X_ld rfl rfl rfl rfl ?_
      refine X_ld rfl rfl rfl rfl ?_
      refine X_ld rfl rfl rfl rfl ?_
      refine X_scall l_X11_X11_valueAt (c_valueAt hG (d + 2) ) rfl rfl rfl (Nat.le_of_ble_eq_true rfl) (Nat.le_of_ble_eq_true rfl) (Nat.le_refl _) (Nat.le_of_ble_eq_true rfl) (Nat.le_of_ble_eq_true rfl) ?_
      refine X_mcall l_X11_X11_get (c_get hG (d + 2) w hw hw9 (75 + 5 * l + j2) (by omega) (m_valueAt hy hj2)) rfl rfl rfl rfl (Nat.le_of_ble_eq_true rfl) (Nat.le_of_ble_eq_true rfl) (Nat.le_refl _) (Nat.le_of_ble_eq_true rfl) (Nat.le_of_ble_eq_true rfl) ?_
      refine X_goto rfl ?_
      refine X_loc (L' := [some (.ref 275), some (.int x), some (.int y), some (.int (S w (75 + 5 * l + j))), none, none, none, none]) ⟨rfl, rfl, rfl, rfl, trivial⟩ ?_
      exact tail _ (by unfold s_rhs; rw [if_neg c33, if_pos c44, show (s_cod (S w) k 4).toNatClampNeg = j2 by rw [hj2]; exact nI_clamp (by omega)])
  · refine X_ld rfl rfl rfl rfl ?_
    refine X_goto rfl ?_
    refine X_loc (L' := [some (.ref 275), some (.int x), some (.int y), some (.int (S w (75 + 5 * l + j))), none, none, none, none]) ⟨rfl, rfl, rfl, rfl, trivial⟩ ?_
    exact tail _ (by unfold s_rhs; rw [if_pos c33])
def s_hg1 (op : Int32) (h : Nat) : Nat := if op = 0 then h + 1 else if op = 3 then h else h - 1
/-- how many truths lie on the pile after n codes -/
def s_hg (c : Nat → Int32) (f : Nat) : Nat → Nat
  | 0 => 0
  | n + 1 => s_hg1 (s_cod c (f + n) 0) (s_hg c f n)
def s_px1 (op : Int32) (h : Nat) (t : Bool) (P : Nat → Bool) : Nat → Bool :=
  if op = 0 then s_upb P h t else if op = 3 then s_upb P (h - 1) (!P (h - 1)) else s_upb P (h - 1 - 1) (if op = 1 then P (h - 1 - 1) && P (h - 1) else P (h - 1 - 1) || P (h - 1))
/-- the pile after n codes -/
def s_px (c gv : Nat → Int32) (l f : Nat) (P : Nat → Bool) : Nat → Nat → Bool
  | 0 => P
  | n + 1 => s_px1 (s_cod c (f + n) 0) (s_hg c f n) (s_tru c gv (f + n) l) (s_px c gv l f P n)
/-- the codes from f, n of them, can be reckoned -/
def s_pok (c : Nat → Int32) (f n : Nat) : Prop :=
  ∀ k, k < n → (s_cod c (f + k) 0 = 0 ∧ s_tok c (f + k)) ∨ (s_cod c (f + k) 0 = 3 ∧ 1 ≤ s_hg c f k) ∨ (¬ s_cod c (f + k) 0 = 0 ∧ ¬ s_cod c (f + k) 0 = 3 ∧ 2 ≤ s_hg c f k)
theorem s_hg_le {c : Nat → Int32} {f : Nat} : ∀ n, s_hg c f n ≤ n
  | 0 => Nat.le_refl _
  | n + 1 => by
    have h := s_hg_le (c := c) (f := f) n
    show s_hg1 _ _ ≤ n + 1
    unfold s_hg1
    repeat' split
    all_goals omega
theorem s_pok_tok {c : Nat → Int32} {f n k : Nat} (h : s_pok c f n) (hk : k < n) (h0 : s_cod c (f + k) 0 = 0) : s_tok c (f + k) := by
  rcases h k hk with h | h | h
  · exact h.2
  · exact absurd (h0.symm.trans h.1) (by decide)
  · exact absurd h0 h.1
theorem s_pok_1 {c : Nat → Int32} {f n k : Nat} (h : s_pok c f n) (hk : k < n) (h0 : ¬ s_cod c (f + k) 0 = 0) : 1 ≤ s_hg c f k := by
  rcases h k hk with h | h | h
  · exact absurd h.1 h0
  · exact h.2
  · omega
theorem s_pok_2 {c : Nat → Int32} {f n k : Nat} (h : s_pok c f n) (hk : k < n) (h0 : ¬ s_cod c (f + k) 0 = 0) (h3 : ¬ s_cod c (f + k) 0 = 3) : 2 ≤ s_hg c f k := by
  rcases h k hk with h | h | h
  · exact absurd h.1 h0
  · exact absurd h.1 h3
  · exact h.2.2
/-- what lies on the pile does not hang on what lay there before -/
theorem s_px_any {c gv : Nat → Int32} {l f n : Nat} {P Q : Nat → Bool} (h : s_pok c f n) : ∀ k, k ≤ n → ∀ i, i < s_hg c f k → s_px c gv l f P k i = s_px c gv l f Q k i
  | 0, _, i, hi => absurd hi (Nat.not_lt_zero _)
  | k + 1, hk, i, hi => by
    have ih := s_px_any (gv := gv) (l := l) (P := P) (Q := Q) h k (by omega)
    change i < s_hg1 _ _ at hi
    show s_px1 _ _ _ _ i = s_px1 _ _ _ _ i
    unfold s_px1
    unfold s_hg1 at hi
    by_cases h0 : s_cod c (f + k) 0 = 0
    · rw [if_pos h0, if_pos h0]
      rw [if_pos h0] at hi
      unfold s_upb
      by_cases e : i = s_hg c f k
      · rw [if_pos e, if_pos e]
      · rw [if_neg e, if_neg e]; exact ih i (by omega)
    · rw [if_neg h0, if_neg h0]
      rw [if_neg h0] at hi
      by_cases h3 : s_cod c (f + k) 0 = 3
      · rw [if_pos h3, if_pos h3]
        rw [if_pos h3] at hi
        have hh := s_pok_1 h (by omega) h0
        unfold s_upb
        by_cases e : i = s_hg c f k - 1
        · rw [if_pos e, if_pos e, ih _ (by omega)]
        · rw [if_neg e, if_neg e]; exact ih i hi
      · rw [if_neg h3, if_neg h3]
        rw [if_neg h3] at hi
        have hh := s_pok_2 h (by omega) h0 h3
        unfold s_upb
        by_cases e : i = s_hg c f k - 1 - 1
        · rw [if_pos e, if_pos e, ih _ (by omega), ih _ (by omega)]
        · rw [if_neg e, if_neg e]; exact ih i (by omega)
/-- is the statement's condition true of line l -/
def s_find (c gv : Nat → Int32) (s l : Nat) : Bool := s_px c gv l (s_from c s) (fun _ => false) (s_to c s - s_from c s) 0
/-- a statement whose condition can be asked -/
def s_fok (c : Nat → Int32) (s : Nat) : Prop := s_pok c (s_from c s) (s_to c s - s_from c s) ∧ s_hg c (s_from c s) (s_to c s - s_from c s) = 1
theorem s_find_any {c gv : Nat → Int32} {s l : Nat} {P : Nat → Bool} (h : s_fok c s) : s_px c gv l (s_from c s) P (s_to c s - s_from c s) 0 = s_find c gv s l :=
  s_px_any h.1 _ (Nat.le_refl _) 0 (by rw [h.2]; decide)
theorem c_finds {G : XE} (hG : x_Kn G) {B : XH} {I : Nat → Int32} {T : Int64} {S : Nat → Nat → Int32} {rd tx gv : Nat → Int32} {P : Nat → Bool} (d : Nat) (w : Nat) (hw : I 3 = nI w) (hw9 : w < 9) (s l : Nat) (hs : s < 6) (hl : l < 41) (hko : s_kok (S w) s) (hfo : s_fok (S w) s) {x y : Int32} (hx : x = nI s) (hy : y = nI l) : x_M G mX11_finds (d + 4) 0 0 [.ref 275, .int x, .int y] (mset B I T S rd tx gv (fun i => b2 (P i))) (x_Ret (mset B I T S rd tx gv (fun i => b2 (s_px (S w) gv l (s_from (S w) s) P (s_to (S w) s - s_from (S w) s) i))) (.int (b2 (s_find (S w) gv s l)))) x_noX := by
  refine X_M hG okX11_finds rfl (L := [some (.ref 275), some (.int x), some (.int y), none, none, none]) rfl (Nat.le_of_ble_eq_true rfl) (fun ad0 nb0 => ?_)
  obtain ⟨h1, h2, h3, h4⟩ := s_kok_ft hko
  have loop : x_W G mX11_finds (x_Z G (d + 4) 0 0 ad0 nb0 (x_Ret (mset B I T S rd tx gv (fun i => b2 (s_px (S w) gv l (s_from (S w) s) P (s_to (S w) s - s_from (S w) s) i))) (.int (b2 (s_find (S w) gv s l)))) x_noX) (mset B I T S rd tx gv (fun i => b2 (s_px (S w) gv l (s_from (S w) s) P (s_to (S w) s - s_from (S w) s) i))) 0 0 165 [some (.ref 275), some (.int x), some (.int y), some (.int (nI (s_hg (S w) (s_from (S w) s) (s_to (S w) s - s_from (S w) s)))), some (.int (nI (s_from (S w) s + (s_to (S w) s - s_from (S w) s)))), none] [] → ∀ (n k : Nat), k + n = (s_to (S w) s - s_from (S w) s) → x_W G mX11_finds (x_Z G (d + 4) 0 0 ad0 nb0 (x_Ret (mset B I T S rd tx gv (fun i => b2 (s_px (S w) gv l (s_from (S w) s) P (s_to (S w) s - s_from (S w) s) i))) (.int (b2 (s_find (S w) gv s l)))) x_noX) (mset B I T S rd tx gv (fun i => b2 (s_px (S w) gv l (s_from (S w) s) P k i))) 0 0 11 [some (.ref 275), some (.int x), some (.int y), some (.int (nI (s_hg (S w) (s_from (S w) s) k))), some (.int (nI (s_from (S w) s + k))), none] [] := by
    intro K n
    induction n with
    | zero =>
      intro k e0 
      obtain rfl : k = (s_to (S w) s - s_from (S w) s) := by omega
      refine X_ld rfl rfl rfl rfl ?_
      refine X_ld rfl rfl rfl rfl ?_
      refine X_ld rfl rfl rfl rfl ?_
      refine X_push (v := .int 27) rfl (by decide +kernel) ?_
      refine X_mcall l_X11_X11_ofStatement (c_ofStatement hG (d + 2) w hw hw9 s 27 (by omega) hx rfl) rfl rfl rfl rfl (Nat.le_of_ble_eq_true rfl) (Nat.le_of_ble_eq_true rfl) (Nat.le_refl _) (Nat.le_of_ble_eq_true rfl) (Nat.le_of_ble_eq_true rfl) ?_
      refine X_icmp_ge rfl (fun c20 => ?_) (fun c20 => absurd ((n_le (a := s_to (S w) s) (b := s_from (S w) s + (s_to (S w) s - s_from (S w) s)) h4 rfl (by omega) (by omega)).mpr (by omega)) c20)
      exact K
    | succ n ih =>
      intro k e0 
      have hgl := s_hg_le (c := S w) (f := s_from (S w) s) k
      refine X_ld rfl rfl rfl rfl ?_
      refine X_ld rfl rfl rfl rfl ?_
      refine X_ld rfl rfl rfl rfl ?_
      refine X_push (v := .int 27) rfl (by decide +kernel) ?_
      refine X_mcall l_X11_X11_ofStatement (c_ofStatement hG (d + 2) w hw hw9 s 27 (by omega) hx rfl) rfl rfl rfl rfl (Nat.le_of_ble_eq_true rfl) (Nat.le_of_ble_eq_true rfl) (Nat.le_refl _) (Nat.le_of_ble_eq_true rfl) (Nat.le_of_ble_eq_true rfl) ?_
      refine X_icmp_ge rfl (fun c20 => absurd ((n_le (a := s_to (S w) s) (b := s_from (S w) s + k) h4 rfl (by omega) (by omega)).mp c20) (by omega)) (fun c20 => ?_)
      refine X_ld rfl rfl rfl rfl ?_
      refine X_ld rfl rfl rfl rfl ?_
      refine X_push (v := .int 0) rfl (by decide +kernel) ?_
      refine X_mcall l_X11_X11_ofCode (c_ofCode hG (d + 2) w hw hw9 (s_from (S w) s + k) 0 (by omega) rfl rfl) rfl rfl rfl rfl (Nat.le_of_ble_eq_true rfl) (Nat.le_of_ble_eq_true rfl) (Nat.le_refl _) (Nat.le_of_ble_eq_true rfl) (Nat.le_of_ble_eq_true rfl) ?_
      refine X_st rfl rfl rfl ?_
      refine X_ld rfl rfl rfl rfl ?_
      refine X_if_ne rfl (fun c34 => ?_) (fun c34 => ?_)
      · refine X_ld rfl rfl rfl rfl ?_
        refine X_push (v := .int 3) rfl (by decide +kernel) ?_
        refine X_icmp_ne rfl (fun c59 => ?_) (fun c59 => ?_)
        · have hg2 := s_pok_2 hfo.1 (show k < (s_to (S w) s - s_from (S w) s) by omega) c34 c59
          refine X_iinc rfl rfl rfl ?_
          refine X_ld rfl rfl rfl rfl ?_
          refine X_get f_X11_26 rfl rfl rfl ?_
          refine X_ld rfl rfl rfl rfl ?_
          refine X_push (v := .int 1) rfl (by decide +kernel) ?_
          refine X_bin rfl rfl ?_
          refine X_ld rfl rfl rfl rfl ?_
          refine X_push (v := .int 1) rfl (by decide +kernel) ?_
          refine X_icmp_ne rfl (fun c102 => ?_) (fun c102 => ?_)
          · refine X_ld rfl rfl rfl rfl ?_
            refine X_get f_X11_26 rfl rfl rfl ?_
            refine X_ld rfl rfl rfl rfl ?_
            refine X_push (v := .int 1) rfl (by decide +kernel) ?_
            refine X_bin rfl rfl ?_
            refine X_zaldn (n := 400) (((s_hg (S w) (s_from (S w) s) k) - 1) - 1) (m_subc (b := 1) (by omega) (m_dec (by omega) rfl)) (by omega) (by omega) rfl rfl ?_
            refine X_if_ne rfl (fun c141 => ?_) (fun c141 => ?_)
            · have h141 : (s_px (S w) gv l (s_from (S w) s) P k (((s_hg (S w) (s_from (S w) s) k) - 1) - 1)) = true := b2_1 c141
              refine X_push (v := .int 1) rfl (by decide +kernel) ?_
              refine X_goto rfl ?_
              refine X_mPb (((s_hg (S w) (s_from (S w) s) k) - 1) - 1) true (m_subc (b := 1) (by omega) (m_dec (by omega) rfl)) (by omega) rfl ?_
              refine X_iinc rfl rfl rfl ?_
              refine X_goto rfl ?_
              have e1 : s_px (S w) gv l (s_from (S w) s) P (k + 1) = s_upb (s_px (S w) gv l (s_from (S w) s) P k) (s_hg (S w) (s_from (S w) s) k - 1 - 1) true := (show s_px1 (s_cod (S w) (s_from (S w) s + k) 0) (s_hg (S w) (s_from (S w) s) k) (s_tru (S w) gv (s_from (S w) s + k) l) (s_px (S w) gv l (s_from (S w) s) P k) = _ from by unfold s_px1; rw [if_neg c34, if_neg c59, if_neg c102, h141] <;> rfl)
              have e2 : s_hg (S w) (s_from (S w) s) (k + 1) = (s_hg (S w) (s_from (S w) s) k - 1) := (show s_hg1 (s_cod (S w) (s_from (S w) s + k) 0) (s_hg (S w) (s_from (S w) s) k) = _ from by unfold s_hg1; rw [if_neg c34, if_neg c59])
              refine X_heap (N' := mset B I T S rd tx gv (fun i => b2 (s_px (S w) gv l (s_from (S w) s) P (k + 1) i))) (by rw [e1]) ?_
              refine X_loc (L' := [some (.ref 275), some (.int x), some (.int y), some (.int (nI (s_hg (S w) (s_from (S w) s) (k + 1)))), some (.int (nI (s_from (S w) s + (k + 1)))), none]) ⟨rfl, rfl, rfl, (congrArg (fun q => Value.int (nI q)) e2).trans (congrArg Value.int (m_dec (by omega) rfl).symm), congrArg Value.int (m_inc rfl).symm, trivial⟩ ?_
              exact ih (k + 1) (by omega)
            · have h141 : (s_px (S w) gv l (s_from (S w) s) P k (((s_hg (S w) (s_from (S w) s) k) - 1) - 1)) = false := b2_0 c141
              refine X_ld rfl rfl rfl rfl ?_
              refine X_get f_X11_26 rfl rfl rfl ?_
              refine X_ld rfl rfl rfl rfl ?_
              refine X_zaldn (n := 400) ((s_hg (S w) (s_from (S w) s) k) - 1) (m_dec (by omega) rfl) (by omega) (by omega) rfl rfl ?_
              refine X_if_eq rfl (fun c150 => ?_) (fun c150 => ?_)
              · have h150 : (s_px (S w) gv l (s_from (S w) s) P k ((s_hg (S w) (s_from (S w) s) k) - 1)) = false := b2_0 c150
                refine X_push (v := .int 0) rfl (by decide +kernel) ?_
                refine X_mPb (((s_hg (S w) (s_from (S w) s) k) - 1) - 1) false (m_subc (b := 1) (by omega) (m_dec (by omega) rfl)) (by omega) rfl ?_
                refine X_iinc rfl rfl rfl ?_
                refine X_goto rfl ?_
                have e1 : s_px (S w) gv l (s_from (S w) s) P (k + 1) = s_upb (s_px (S w) gv l (s_from (S w) s) P k) (s_hg (S w) (s_from (S w) s) k - 1 - 1) false := (show s_px1 (s_cod (S w) (s_from (S w) s + k) 0) (s_hg (S w) (s_from (S w) s) k) (s_tru (S w) gv (s_from (S w) s + k) l) (s_px (S w) gv l (s_from (S w) s) P k) = _ from by unfold s_px1; rw [if_neg c34, if_neg c59, if_neg c102, h141, h150] <;> rfl)
                have e2 : s_hg (S w) (s_from (S w) s) (k + 1) = (s_hg (S w) (s_from (S w) s) k - 1) := (show s_hg1 (s_cod (S w) (s_from (S w) s + k) 0) (s_hg (S w) (s_from (S w) s) k) = _ from by unfold s_hg1; rw [if_neg c34, if_neg c59])
                refine X_heap (N' := mset B I T S rd tx gv (fun i => b2 (s_px (S w) gv l (s_from (S w) s) P (k + 1) i))) (by rw [e1]) ?_
                refine X_loc (L' := [some (.ref 275), some (.int x), some (.int y), some (.int (nI (s_hg (S w) (s_from (S w) s) (k + 1)))), some (.int (nI (s_from (S w) s + (k + 1)))), none]) ⟨rfl, rfl, rfl, (congrArg (fun q => Value.int (nI q)) e2).trans (congrArg Value.int (m_dec (by omega) rfl).symm), congrArg Value.int (m_inc rfl).symm, trivial⟩ ?_
                exact ih (k + 1) (by omega)
              · have h150 : (s_px (S w) gv l (s_from (S w) s) P k ((s_hg (S w) (s_from (S w) s) k) - 1)) = true := b2_1 c150
                refine X_push (v := .int 1) rfl (by decide +kernel) ?_
                refine X_goto rfl ?_
                refine X_mPb (((s_hg (S w) (s_from (S w) s) k) - 1) - 1) true (m_subc (b := 1) (by omega) (m_dec (by omega) rfl)) (by omega) rfl ?_
                refine X_iinc rfl rfl rfl ?_
                refine X_goto rfl ?_
                have e1 : s_px (S w) gv l (s_from (S w) s) P (k + 1) = s_upb (s_px (S w) gv l (s_from (S w) s) P k) (s_hg (S w) (s_from (S w) s) k - 1 - 1) true := (show s_px1 (s_cod (S w) (s_from (S w) s + k) 0) (s_hg (S w) (s_from (S w) s) k) (s_tru (S w) gv (s_from (S w) s + k) l) (s_px (S w) gv l (s_from (S w) s) P k) = _ from by unfold s_px1; rw [if_neg c34, if_neg c59, if_neg c102, h141, h150] <;> rfl)
                have e2 : s_hg (S w) (s_from (S w) s) (k + 1) = (s_hg (S w) (s_from (S w) s) k - 1) := (show s_hg1 (s_cod (S w) (s_from (S w) s + k) 0) (s_hg (S w) (s_from (S w) s) k) = _ from by unfold s_hg1; rw [if_neg c34, if_neg c59])
                refine X_heap (N' := mset B I T S rd tx gv (fun i => b2 (s_px (S w) gv l (s_from (S w) s) P (k + 1) i))) (by rw [e1]) ?_
                refine X_loc (L' := [some (.ref 275), some (.int x), some (.int y), some (.int (nI (s_hg (S w) (s_from (S w) s) (k + 1)))), some (.int (nI (s_from (S w) s + (k + 1)))), none]) ⟨rfl, rfl, rfl, (congrArg (fun q => Value.int (nI q)) e2).trans (congrArg Value.int (m_dec (by omega) rfl).symm), congrArg Value.int (m_inc rfl).symm, trivial⟩ ?_
                exact ih (k + 1) (by omega)
          · refine X_ld rfl rfl rfl rfl ?_
            refine X_get f_X11_26 rfl rfl rfl ?_
            refine X_ld rfl rfl rfl rfl ?_
            refine X_push (v := .int 1) rfl (by decide +kernel) ?_
            refine X_bin rfl rfl ?_
            refine X_zaldn (n := 400) (((s_hg (S w) (s_from (S w) s) k) - 1) - 1) (m_subc (b := 1) (by omega) (m_dec (by omega) rfl)) (by omega) (by omega) rfl rfl ?_
            refine X_if_eq rfl (fun c113 => ?_) (fun c113 => ?_)
            · have h113 : (s_px (S w) gv l (s_from (S w) s) P k (((s_hg (S w) (s_from (S w) s) k) - 1) - 1)) = false := b2_0 c113
              refine X_push (v := .int 0) rfl (by decide +kernel) ?_
              refine X_goto rfl ?_
              refine X_mPb (((s_hg (S w) (s_from (S w) s) k) - 1) - 1) false (m_subc (b := 1) (by omega) (m_dec (by omega) rfl)) (by omega) rfl ?_
              refine X_iinc rfl rfl rfl ?_
              refine X_goto rfl ?_
              have e1 : s_px (S w) gv l (s_from (S w) s) P (k + 1) = s_upb (s_px (S w) gv l (s_from (S w) s) P k) (s_hg (S w) (s_from (S w) s) k - 1 - 1) false := (show s_px1 (s_cod (S w) (s_from (S w) s + k) 0) (s_hg (S w) (s_from (S w) s) k) (s_tru (S w) gv (s_from (S w) s + k) l) (s_px (S w) gv l (s_from (S w) s) P k) = _ from by unfold s_px1; rw [if_neg c34, if_neg c59, if_pos c102, h113] <;> rfl)
              have e2 : s_hg (S w) (s_from (S w) s) (k + 1) = (s_hg (S w) (s_from (S w) s) k - 1) := (show s_hg1 (s_cod (S w) (s_from (S w) s + k) 0) (s_hg (S w) (s_from (S w) s) k) = _ from by unfold s_hg1; rw [if_neg c34, if_neg c59])
              refine X_heap (N' := mset B I T S rd tx gv (fun i => b2 (s_px (S w) gv l (s_from (S w) s) P (k + 1) i))) (by rw [e1]) ?_
              refine X_loc (L' := [some (.ref 275), some (.int x), some (.int y), some (.int (nI (s_hg (S w) (s_from (S w) s) (k + 1)))), some (.int (nI (s_from (S w) s + (k + 1)))), none]) ⟨rfl, rfl, rfl, (congrArg (fun q => Value.int (nI q)) e2).trans (congrArg Value.int (m_dec (by omega) rfl).symm), congrArg Value.int (m_inc rfl).symm, trivial⟩ ?_
              exact ih (k + 1) (by omega)
            · have h113 : (s_px (S w) gv l (s_from (S w) s) P k (((s_hg (S w) (s_from (S w) s) k) - 1) - 1)) = true := b2_1 c113
              refine X_ld rfl rfl rfl rfl ?_
              refine X_get f_X11_26 rfl rfl rfl ?_
              refine X_ld rfl rfl rfl rfl ?_
              refine X_zaldn (n := 400) ((s_hg (S w) (s_from (S w) s) k) - 1) (m_dec (by omega) rfl) (by omega) (by omega) rfl rfl ?_
              refine X_if_eq rfl (fun c122 => ?_) (fun c122 => ?_)
              · have h122 : (s_px (S w) gv l (s_from (S w) s) P k ((s_hg (S w) (s_from (S w) s) k) - 1)) = false := b2_0 c122
                refine X_push (v := .int 0) rfl (by decide +kernel) ?_
                refine X_goto rfl ?_
                refine X_mPb (((s_hg (S w) (s_from (S w) s) k) - 1) - 1) false (m_subc (b := 1) (by omega) (m_dec (by omega) rfl)) (by omega) rfl ?_
                refine X_iinc rfl rfl rfl ?_
                refine X_goto rfl ?_
                have e1 : s_px (S w) gv l (s_from (S w) s) P (k + 1) = s_upb (s_px (S w) gv l (s_from (S w) s) P k) (s_hg (S w) (s_from (S w) s) k - 1 - 1) false := (show s_px1 (s_cod (S w) (s_from (S w) s + k) 0) (s_hg (S w) (s_from (S w) s) k) (s_tru (S w) gv (s_from (S w) s + k) l) (s_px (S w) gv l (s_from (S w) s) P k) = _ from by unfold s_px1; rw [if_neg c34, if_neg c59, if_pos c102, h113, h122] <;> rfl)
                have e2 : s_hg (S w) (s_from (S w) s) (k + 1) = (s_hg (S w) (s_from (S w) s) k - 1) := (show s_hg1 (s_cod (S w) (s_from (S w) s + k) 0) (s_hg (S w) (s_from (S w) s) k) = _ from by unfold s_hg1; rw [if_neg c34, if_neg c59])
                refine X_heap (N' := mset B I T S rd tx gv (fun i => b2 (s_px (S w) gv l (s_from (S w) s) P (k + 1) i))) (by rw [e1]) ?_
                refine X_loc (L' := [some (.ref 275), some (.int x), some (.int y), some (.int (nI (s_hg (S w) (s_from (S w) s) (k + 1)))), some (.int (nI (s_from (S w) s + (k + 1)))), none]) ⟨rfl, rfl, rfl, (congrArg (fun q => Value.int (nI q)) e2).trans (congrArg Value.int (m_dec (by omega) rfl).symm), congrArg Value.int (m_inc rfl).symm, trivial⟩ ?_
                exact ih (k + 1) (by omega)
              · have h122 : (s_px (S w) gv l (s_from (S w) s) P k ((s_hg (S w) (s_from (S w) s) k) - 1)) = true := b2_1 c122
                refine X_push (v := .int 1) rfl (by decide +kernel) ?_
                refine X_goto rfl ?_
                refine X_mPb (((s_hg (S w) (s_from (S w) s) k) - 1) - 1) true (m_subc (b := 1) (by omega) (m_dec (by omega) rfl)) (by omega) rfl ?_
                refine X_iinc rfl rfl rfl ?_
                refine X_goto rfl ?_
                have e1 : s_px (S w) gv l (s_from (S w) s) P (k + 1) = s_upb (s_px (S w) gv l (s_from (S w) s) P k) (s_hg (S w) (s_from (S w) s) k - 1 - 1) true := (show s_px1 (s_cod (S w) (s_from (S w) s + k) 0) (s_hg (S w) (s_from (S w) s) k) (s_tru (S w) gv (s_from (S w) s + k) l) (s_px (S w) gv l (s_from (S w) s) P k) = _ from by unfold s_px1; rw [if_neg c34, if_neg c59, if_pos c102, h113, h122] <;> rfl)
                have e2 : s_hg (S w) (s_from (S w) s) (k + 1) = (s_hg (S w) (s_from (S w) s) k - 1) := (show s_hg1 (s_cod (S w) (s_from (S w) s + k) 0) (s_hg (S w) (s_from (S w) s) k) = _ from by unfold s_hg1; rw [if_neg c34, if_neg c59])
                refine X_heap (N' := mset B I T S rd tx gv (fun i => b2 (s_px (S w) gv l (s_from (S w) s) P (k + 1) i))) (by rw [e1]) ?_
                refine X_loc (L' := [some (.ref 275), some (.int x), some (.int y), some (.int (nI (s_hg (S w) (s_from (S w) s) (k + 1)))), some (.int (nI (s_from (S w) s + (k + 1)))), none]) ⟨rfl, rfl, rfl, (congrArg (fun q => Value.int (nI q)) e2).trans (congrArg Value.int (m_dec (by omega) rfl).symm), congrArg Value.int (m_inc rfl).symm, trivial⟩ ?_
                exact ih (k + 1) (by omega)
        · have hg1 := s_pok_1 hfo.1 (show k < (s_to (S w) s - s_from (S w) s) by omega) c34
          refine X_ld rfl rfl rfl rfl ?_
          refine X_get f_X11_26 rfl rfl rfl ?_
          refine X_ld rfl rfl rfl rfl ?_
          refine X_push (v := .int 1) rfl (by decide +kernel) ?_
          refine X_bin rfl rfl ?_
          refine X_ld rfl rfl rfl rfl ?_
          refine X_get f_X11_26 rfl rfl rfl ?_
          refine X_ld rfl rfl rfl rfl ?_
          refine X_push (v := .int 1) rfl (by decide +kernel) ?_
          refine X_bin rfl rfl ?_
          refine X_zaldn (n := 400) ((s_hg (S w) (s_from (S w) s) k) - 1) (m_subc (b := 1) (by omega) rfl) (by omega) (by omega) rfl rfl ?_
          refine X_if_ne rfl (fun c77 => ?_) (fun c77 => ?_)
          · have h77 : (s_px (S w) gv l (s_from (S w) s) P k ((s_hg (S w) (s_from (S w) s) k) - 1)) = true := b2_1 c77
            refine X_push (v := .int 0) rfl (by decide +kernel) ?_
            refine X_mPb ((s_hg (S w) (s_from (S w) s) k) - 1) false (m_subc (b := 1) (by omega) rfl) (by omega) rfl ?_
            refine X_goto rfl ?_
            refine X_iinc rfl rfl rfl ?_
            refine X_goto rfl ?_
            have e1 : s_px (S w) gv l (s_from (S w) s) P (k + 1) = s_upb (s_px (S w) gv l (s_from (S w) s) P k) (s_hg (S w) (s_from (S w) s) k - 1) false := (show s_px1 (s_cod (S w) (s_from (S w) s + k) 0) (s_hg (S w) (s_from (S w) s) k) (s_tru (S w) gv (s_from (S w) s + k) l) (s_px (S w) gv l (s_from (S w) s) P k) = _ from by unfold s_px1; rw [if_neg c34, if_pos c59, h77] <;> rfl)
            have e2 : s_hg (S w) (s_from (S w) s) (k + 1) = (s_hg (S w) (s_from (S w) s) k) := (show s_hg1 (s_cod (S w) (s_from (S w) s + k) 0) (s_hg (S w) (s_from (S w) s) k) = _ from by unfold s_hg1; rw [if_neg c34, if_pos c59])
            refine X_heap (N' := mset B I T S rd tx gv (fun i => b2 (s_px (S w) gv l (s_from (S w) s) P (k + 1) i))) (by rw [e1]) ?_
            refine X_loc (L' := [some (.ref 275), some (.int x), some (.int y), some (.int (nI (s_hg (S w) (s_from (S w) s) (k + 1)))), some (.int (nI (s_from (S w) s + (k + 1)))), none]) ⟨rfl, rfl, rfl, congrArg (fun q => Value.int (nI q)) e2, congrArg Value.int (m_inc rfl).symm, trivial⟩ ?_
            exact ih (k + 1) (by omega)
          · have h77 : (s_px (S w) gv l (s_from (S w) s) P k ((s_hg (S w) (s_from (S w) s) k) - 1)) = false := b2_0 c77
            refine X_push (v := .int 1) rfl (by decide +kernel) ?_
            refine X_goto rfl ?_
            refine X_mPb ((s_hg (S w) (s_from (S w) s) k) - 1) true (m_subc (b := 1) (by omega) rfl) (by omega) rfl ?_
            refine X_goto rfl ?_
            refine X_iinc rfl rfl rfl ?_
            refine X_goto rfl ?_
            have e1 : s_px (S w) gv l (s_from (S w) s) P (k + 1) = s_upb (s_px (S w) gv l (s_from (S w) s) P k) (s_hg (S w) (s_from (S w) s) k - 1) true := (show s_px1 (s_cod (S w) (s_from (S w) s + k) 0) (s_hg (S w) (s_from (S w) s) k) (s_tru (S w) gv (s_from (S w) s + k) l) (s_px (S w) gv l (s_from (S w) s) P k) = _ from by unfold s_px1; rw [if_neg c34, if_pos c59, h77] <;> rfl)
            have e2 : s_hg (S w) (s_from (S w) s) (k + 1) = (s_hg (S w) (s_from (S w) s) k) := (show s_hg1 (s_cod (S w) (s_from (S w) s + k) 0) (s_hg (S w) (s_from (S w) s) k) = _ from by unfold s_hg1; rw [if_neg c34, if_pos c59])
            refine X_heap (N' := mset B I T S rd tx gv (fun i => b2 (s_px (S w) gv l (s_from (S w) s) P (k + 1) i))) (by rw [e1]) ?_
            refine X_loc (L' := [some (.ref 275), some (.int x), some (.int y), some (.int (nI (s_hg (S w) (s_from (S w) s) (k + 1)))), some (.int (nI (s_from (S w) s + (k + 1)))), none]) ⟨rfl, rfl, rfl, congrArg (fun q => Value.int (nI q)) e2, congrArg Value.int (m_inc rfl).symm, trivial⟩ ?_
            exact ih (k + 1) (by omega)
      · refine X_ld rfl rfl rfl rfl ?_
        refine X_get f_X11_26 rfl rfl rfl ?_
        refine X_ld rfl rfl rfl rfl ?_
        refine X_ld rfl rfl rfl rfl ?_
        refine X_ld rfl rfl rfl rfl ?_
        refine X_ld rfl rfl rfl rfl ?_
        refine X_mcall l_X11_X11_isTrue (c_isTrue hG d w hw hw9 (s_from (S w) s + k) l (by omega) hl (s_pok_tok hfo.1 (by omega) c34) rfl hy) rfl rfl rfl rfl (Nat.le_of_ble_eq_true rfl) (Nat.le_of_ble_eq_true rfl) (Nat.le_refl _) (Nat.le_of_ble_eq_true rfl) (Nat.le_of_ble_eq_true rfl) ?_
        refine X_mPb (s_hg (S w) (s_from (S w) s) k) (s_tru (S w) gv (s_from (S w) s + k) l) rfl (by omega) rfl ?_
        refine X_iinc rfl rfl rfl ?_
        refine X_goto rfl ?_
        refine X_iinc rfl rfl rfl ?_
        refine X_goto rfl ?_
        have e1 : s_px (S w) gv l (s_from (S w) s) P (k + 1) = s_upb (s_px (S w) gv l (s_from (S w) s) P k) (s_hg (S w) (s_from (S w) s) k) (s_tru (S w) gv (s_from (S w) s + k) l) := (show s_px1 (s_cod (S w) (s_from (S w) s + k) 0) (s_hg (S w) (s_from (S w) s) k) (s_tru (S w) gv (s_from (S w) s + k) l) (s_px (S w) gv l (s_from (S w) s) P k) = _ from by unfold s_px1; rw [if_pos c34] <;> rfl)
        have e2 : s_hg (S w) (s_from (S w) s) (k + 1) = (s_hg (S w) (s_from (S w) s) k + 1) := (show s_hg1 (s_cod (S w) (s_from (S w) s + k) 0) (s_hg (S w) (s_from (S w) s) k) = _ from by unfold s_hg1; rw [if_pos c34])
        refine X_heap (N' := mset B I T S rd tx gv (fun i => b2 (s_px (S w) gv l (s_from (S w) s) P (k + 1) i))) (by rw [e1]) ?_
        refine X_loc (L' := [some (.ref 275), some (.int x), some (.int y), some (.int (nI (s_hg (S w) (s_from (S w) s) (k + 1)))), some (.int (nI (s_from (S w) s + (k + 1)))), none]) ⟨rfl, rfl, rfl, (congrArg (fun q => Value.int (nI q)) e2).trans (congrArg Value.int (m_inc rfl).symm), congrArg Value.int (m_inc rfl).symm, trivial⟩ ?_
        exact ih (k + 1) (by omega)
  refine X_push (v := .int 0) rfl (by decide +kernel) ?_
  refine X_st rfl rfl rfl ?_
  refine X_ld rfl rfl rfl rfl ?_
  refine X_ld rfl rfl rfl rfl ?_
  refine X_push (v := .int 26) rfl (by decide +kernel) ?_
  refine X_mcall l_X11_X11_ofStatement (c_ofStatement hG (d + 2) w hw hw9 s 26 (by omega) hx rfl) rfl rfl rfl rfl (Nat.le_of_ble_eq_true rfl) (Nat.le_of_ble_eq_true rfl) (Nat.le_refl _) (Nat.le_of_ble_eq_true rfl) (Nat.le_of_ble_eq_true rfl) ?_
  refine X_st rfl rfl rfl ?_
  refine X_heap (N' := mset B I T S rd tx gv (fun i => b2 (s_px (S w) gv l (s_from (S w) s) P 0 i))) rfl ?_
  refine X_loc (L' := [some (.ref 275), some (.int x), some (.int y), some (.int (nI (s_hg (S w) (s_from (S w) s) 0))), some (.int (nI (s_from (S w) s + 0))), none]) ⟨rfl, rfl, rfl, rfl, congrArg Value.int h3.symm, trivial⟩ ?_
  refine loop ?_ _ 0 (Nat.zero_add _)
  have e := s_find_any (gv := gv) (l := l) (P := P) hfo
  refine X_ld rfl rfl rfl rfl ?_
  refine X_get f_X11_26 rfl rfl rfl ?_
  refine X_push (v := .int 0) rfl (by decide +kernel) ?_
  refine X_zaldn (n := 400) 0 rfl (by omega) (by omega) rfl rfl ?_
  exact X_zret rfl rfl (b2_nar _) ⟨rfl, congrArg (fun q => some (Value.int (b2 q))) e⟩ (Nat.le_of_ble_eq_true rfl) (Nat.le_of_ble_eq_true rfl)
end
section
/-! ===== the reference: the calls that change nothing ===== -/
theorem c_rightT {G : XE} (hG : x_Kn G) {B : XH} {I : Nat → Int32} {T : Int64} {S : Nat → Nat → Int32} {rd tx gv pl : Nat → Int32} (d : Nat) {p : Prop} [Decidable p] (hp : p) (h0 : I 0 = 0) {code : Int32} : x_M G mX11_right d 0 0 [.ref 275, .int (bI p), .int code] (mset B I T S rd tx gv pl) (x_Ret (mset B I T S rd tx gv pl) (.int 1)) x_noX := by
  by_cases hc : code = 0
  · refine X_M hG okX11_right rfl (L := [some (.ref 275), some (.int (bI p)), some (.int code)]) rfl (Nat.le_of_ble_eq_true rfl) (fun ad0 nb0 => ?_)
    rw [bI_t hp]
    refine X_ld rfl rfl rfl rfl ?_
    refine X_get f_X11_37 rfl rfl rfl ?_
    refine X_if_ne rfl (fun c => absurd h0 c) (fun _ => ?_)
    refine X_ld rfl rfl rfl rfl ?_
    refine X_if_ne rfl (fun c => ?_) (fun c => absurd c (by decide))
    refine X_ld rfl rfl rfl rfl ?_
    refine X_get f_X11_37 rfl rfl rfl ?_
    refine X_if_ne rfl (fun c3 => absurd h0 c3) (fun _ => ?_)
    refine X_push (v := .int 1) rfl (by decide +kernel) ?_
    refine X_goto rfl ?_
    exact X_zret rfl rfl rfl ⟨rfl, rfl⟩ (Nat.le_of_ble_eq_true rfl) (Nat.le_of_ble_eq_true rfl)
  · have h := c_right hG d (B := B) (I := I) (T := T) (S := S) (rd := rd) (tx := tx) (gv := gv) (pl := pl) (p := p) h0 hc
    rw [if_pos hp, bI_t hp] at h
    rw [bI_t hp]
    exact h
theorem c_rightF {G : XE} (hG : x_Kn G) {B : XH} {I : Nat → Int32} {T : Int64} {S : Nat → Nat → Int32} {rd tx gv pl : Nat → Int32} (d : Nat) {p : Prop} [Decidable p] (hp : ¬ p) (h0 : I 0 = 0) {code : Int32} (hc : ¬ code = 0) : x_M G mX11_right d 0 0 [.ref 275, .int (bI p), .int code] (mset B I T S rd tx gv pl) (x_Ret (mset B (upd I 0 code) T S rd tx gv pl) (.int 0)) x_noX := by
  have h := c_right hG d (B := B) (I := I) (T := T) (S := S) (rd := rd) (tx := tx) (gv := gv) (pl := pl) (p := p) h0 hc
  rw [if_neg hp, bI_f hp] at h
  rw [bI_f hp]
  exact h
theorem updI_I3 {I : Nat → Int32} {v : Int32} {w : Nat} (hw : I 3 = nI w) : upd I 0 v 3 = nI w := by rw [updI_ne (by decide)]; exact hw
abbrev s_fresh (c : Nat → Int32) (s : Nat) : Prop := ¬ s_st c s 14 = -2 ∧ s_st c s 16 = c 3
theorem c_isFresh {G : XE} (hG : x_Kn G) {B : XH} {I : Nat → Int32} {T : Int64} {S : Nat → Nat → Int32} {rd tx gv pl : Nat → Int32} (d : Nat) (w : Nat) (hw : I 3 = nI w) (hw9 : w < 9) (s : Nat) (hs : s < 6) {x : Int32} (hx : x = nI s) : x_M G mX11_isFresh (d + 2) 0 0 [.ref 275, .int x] (mset B I T S rd tx gv pl) (x_Ret (mset B I T S rd tx gv pl) (.int (bI (s_fresh (S w) s)))) x_noX := by
  refine X_M hG okX11_isFresh rfl (L := [some (.ref 275), some (.int x)]) rfl (Nat.le_of_ble_eq_true rfl) (fun ad0 nb0 => ?_)
  refine X_ld rfl rfl rfl rfl ?_
  refine X_ld rfl rfl rfl rfl ?_
  refine X_push (v := .int 14) rfl (by decide +kernel) ?_
  refine X_mcall l_X11_X11_ofStatement (c_ofStatement hG d w hw hw9 s 14 (by omega) hx rfl) rfl rfl rfl rfl (Nat.le_of_ble_eq_true rfl) (Nat.le_of_ble_eq_true rfl) (Nat.le_refl _) (Nat.le_of_ble_eq_true rfl) (Nat.le_of_ble_eq_true rfl) ?_
  refine X_push (v := .int (-2)) rfl (by decide +kernel) ?_
  refine X_icmp_eq rfl (fun c9 => ?_) (fun c9 => ?_)
  · refine X_push (v := .int 0) rfl (by decide +kernel) ?_
    exact X_zret rfl rfl rfl ⟨rfl, by rw [bI_f (fun q => q.1 c9)]⟩ (Nat.le_of_ble_eq_true rfl) (Nat.le_of_ble_eq_true rfl)
  · refine X_ld rfl rfl rfl rfl ?_
    refine X_ld rfl rfl rfl rfl ?_
    refine X_push (v := .int 16) rfl (by decide +kernel) ?_
    refine X_mcall l_X11_X11_ofStatement (c_ofStatement hG d w hw hw9 s 16 (by omega) hx rfl) rfl rfl rfl rfl (Nat.le_of_ble_eq_true rfl) (Nat.le_of_ble_eq_true rfl) (Nat.le_refl _) (Nat.le_of_ble_eq_true rfl) (Nat.le_of_ble_eq_true rfl) ?_
    refine X_ld rfl rfl rfl rfl ?_
    refine X_push (v := .int 3) rfl (by decide +kernel) ?_
    refine X_mcall l_X11_X11_get (c_get hG (d + 1) w hw hw9 3 (by omega) rfl) rfl rfl rfl rfl (Nat.le_of_ble_eq_true rfl) (Nat.le_of_ble_eq_true rfl) (Nat.le_refl _) (Nat.le_of_ble_eq_true rfl) (Nat.le_of_ble_eq_true rfl) ?_
    refine X_icmp_ne rfl (fun c24 => ?_) (fun c24 => ?_)
    · refine X_push (v := .int 0) rfl (by decide +kernel) ?_
      exact X_zret rfl rfl rfl ⟨rfl, by rw [bI_f (fun q => c24 q.2)]⟩ (Nat.le_of_ble_eq_true rfl) (Nat.le_of_ble_eq_true rfl)
    · refine X_push (v := .int 1) rfl (by decide +kernel) ?_
      refine X_goto rfl ?_
      exact X_zret rfl rfl rfl ⟨rfl, by rw [bI_t ⟨c9, c24⟩]⟩ (Nat.le_of_ble_eq_true rfl) (Nat.le_of_ble_eq_true rfl)
abbrev s_gen (c : Nat → Int32) (s : Nat) (cost : Int32) : Prop := cost.toInt64 * (s_st c s 9).toInt64 ≤ (s_st c s 10).toInt64
theorem c_isGeneric {G : XE} (hG : x_Kn G) {B : XH} {I : Nat → Int32} {T : Int64} {S : Nat → Nat → Int32} {rd tx gv pl : Nat → Int32} (d : Nat) (w : Nat) (hw : I 3 = nI w) (hw9 : w < 9) (s : Nat) (hs : s < 6) {x : Int32} (hx : x = nI s) {cost : Int32} : x_M G mX11_isGeneric (d + 2) 0 0 [.ref 275, .int x, .int cost] (mset B I T S rd tx gv pl) (x_Ret (mset B I T S rd tx gv pl) (.int (bI (s_gen (S w) s cost)))) x_noX := by
  refine X_M hG okX11_isGeneric rfl (L := [some (.ref 275), some (.int x), some (.int cost)]) rfl (Nat.le_of_ble_eq_true rfl) (fun ad0 nb0 => ?_)
  refine X_ld rfl rfl rfl rfl ?_
  refine X_un rfl rfl ?_
  refine X_ld rfl rfl rfl rfl ?_
  refine X_ld rfl rfl rfl rfl ?_
  refine X_push (v := .int 9) rfl (by decide +kernel) ?_
  refine X_mcall l_X11_X11_ofStatement (c_ofStatement hG d w hw hw9 s 9 (by omega) hx rfl) rfl rfl rfl rfl (Nat.le_of_ble_eq_true rfl) (Nat.le_of_ble_eq_true rfl) (Nat.le_refl _) (Nat.le_of_ble_eq_true rfl) (Nat.le_of_ble_eq_true rfl) ?_
  refine X_un rfl rfl ?_
  refine X_bin rfl rfl ?_
  refine X_ld rfl rfl rfl rfl ?_
  refine X_ld rfl rfl rfl rfl ?_
  refine X_push (v := .int 10) rfl (by decide +kernel) ?_
  refine X_mcall l_X11_X11_ofStatement (c_ofStatement hG d w hw hw9 s 10 (by omega) hx rfl) rfl rfl rfl rfl (Nat.le_of_ble_eq_true rfl) (Nat.le_of_ble_eq_true rfl) (Nat.le_refl _) (Nat.le_of_ble_eq_true rfl) (Nat.le_of_ble_eq_true rfl) ?_
  refine X_un rfl rfl ?_
  refine X_bin rfl rfl ?_
  refine X_if_gt rfl (fun c20 => ?_) (fun c20 => ?_)
  · refine X_push (v := .int 0) rfl (by decide +kernel) ?_
    exact X_zret rfl rfl rfl ⟨rfl, by rw [bI_f (fun q => absurd q (lg_lt_not_le (lg_gt0.mp c20)))]⟩ (Nat.le_of_ble_eq_true rfl) (Nat.le_of_ble_eq_true rfl)
  · refine X_push (v := .int 1) rfl (by decide +kernel) ?_
    refine X_goto rfl ?_
    exact X_zret rfl rfl rfl ⟨rfl, by rw [bI_t (m_ngt c20)]⟩ (Nat.le_of_ble_eq_true rfl) (Nat.le_of_ble_eq_true rfl)
theorem c_noColumnT {G : XE} (hG : x_Kn G) {B : XH} {I : Nat → Int32} {T : Int64} {S : Nat → Nat → Int32} {rd tx gv pl : Nat → Int32} (d : Nat) (w : Nat) (hw : I 3 = nI w) (hw9 : w < 9) (h0 : I 0 = 0) {x : Int32} (hp : (0 : Int32) ≤ x ∧ x ≤ S w 0 - 1) : x_M G mX11_noColumn (d + 1) 0 0 [.ref 275, .int x] (mset B I T S rd tx gv pl) (x_Ret (mset B I T S rd tx gv pl) (.int 0)) x_noX := by
  refine X_M hG okX11_noColumn rfl (L := [some (.ref 275), some (.int x)]) rfl (Nat.le_of_ble_eq_true rfl) (fun ad0 nb0 => ?_)
  refine X_ld rfl rfl rfl rfl ?_
  refine X_ld rfl rfl rfl rfl ?_
  refine X_un rfl rfl ?_
  refine X_push (v := .long 0) rfl (by decide +kernel) ?_
  refine X_ld rfl rfl rfl rfl ?_
  refine X_push (v := .int 0) rfl (by decide +kernel) ?_
  refine X_mcall l_X11_X11_get (c_get hG d w hw hw9 0 (by omega) rfl) rfl rfl rfl rfl (Nat.le_of_ble_eq_true rfl) (Nat.le_of_ble_eq_true rfl) (Nat.le_refl _) (Nat.le_of_ble_eq_true rfl) (Nat.le_of_ble_eq_true rfl) ?_
  refine X_push (v := .int 1) rfl (by decide +kernel) ?_
  refine X_bin rfl rfl ?_
  refine X_un rfl rfl ?_
  refine X_scall l_X11_X11_isIn (c_isIn hG d (x := x) (y := 0) (z := (S w 0) - 1) rfl (by decide) rfl) rfl rfl rfl (Nat.le_of_ble_eq_true rfl) (Nat.le_of_ble_eq_true rfl) (Nat.le_refl _) (Nat.le_of_ble_eq_true rfl) (Nat.le_of_ble_eq_true rfl) ?_
  refine X_push (v := .int 1) rfl (by decide +kernel) ?_
  refine X_mcall l_X11_X11_right (c_rightT hG d hp h0) rfl rfl rfl rfl (Nat.le_of_ble_eq_true rfl) (Nat.le_of_ble_eq_true rfl) (Nat.le_refl _) (Nat.le_of_ble_eq_true rfl) (Nat.le_of_ble_eq_true rfl) ?_
  refine X_if_ne rfl (fun c19 => ?_) (fun c19 => absurd c19 (by decide))
  refine X_push (v := .int 0) rfl (by decide +kernel) ?_
  exact X_zret rfl rfl rfl ⟨rfl, rfl⟩ (Nat.le_of_ble_eq_true rfl) (Nat.le_of_ble_eq_true rfl)
theorem c_noColumnF {G : XE} (hG : x_Kn G) {B : XH} {I : Nat → Int32} {T : Int64} {S : Nat → Nat → Int32} {rd tx gv pl : Nat → Int32} (d : Nat) (w : Nat) (hw : I 3 = nI w) (hw9 : w < 9) (h0 : I 0 = 0) {x : Int32} (hp : ¬ ((0 : Int32) ≤ x ∧ x ≤ S w 0 - 1)) : x_M G mX11_noColumn (d + 1) 0 0 [.ref 275, .int x] (mset B I T S rd tx gv pl) (x_Ret (mset B (upd I 0 1) T S rd tx gv pl) (.int 1)) x_noX := by
  refine X_M hG okX11_noColumn rfl (L := [some (.ref 275), some (.int x)]) rfl (Nat.le_of_ble_eq_true rfl) (fun ad0 nb0 => ?_)
  refine X_ld rfl rfl rfl rfl ?_
  refine X_ld rfl rfl rfl rfl ?_
  refine X_un rfl rfl ?_
  refine X_push (v := .long 0) rfl (by decide +kernel) ?_
  refine X_ld rfl rfl rfl rfl ?_
  refine X_push (v := .int 0) rfl (by decide +kernel) ?_
  refine X_mcall l_X11_X11_get (c_get hG d w hw hw9 0 (by omega) rfl) rfl rfl rfl rfl (Nat.le_of_ble_eq_true rfl) (Nat.le_of_ble_eq_true rfl) (Nat.le_refl _) (Nat.le_of_ble_eq_true rfl) (Nat.le_of_ble_eq_true rfl) ?_
  refine X_push (v := .int 1) rfl (by decide +kernel) ?_
  refine X_bin rfl rfl ?_
  refine X_un rfl rfl ?_
  refine X_scall l_X11_X11_isIn (c_isIn hG d (x := x) (y := 0) (z := (S w 0) - 1) rfl (by decide) rfl) rfl rfl rfl (Nat.le_of_ble_eq_true rfl) (Nat.le_of_ble_eq_true rfl) (Nat.le_refl _) (Nat.le_of_ble_eq_true rfl) (Nat.le_of_ble_eq_true rfl) ?_
  refine X_push (v := .int 1) rfl (by decide +kernel) ?_
  refine X_mcall l_X11_X11_right (c_rightF hG d hp h0 (by decide)) rfl rfl rfl rfl (Nat.le_of_ble_eq_true rfl) (Nat.le_of_ble_eq_true rfl) (Nat.le_refl _) (Nat.le_of_ble_eq_true rfl) (Nat.le_of_ble_eq_true rfl) ?_
  refine X_if_ne rfl (fun c19 => absurd (by decide) c19) (fun c19 => ?_)
  refine X_push (v := .int 1) rfl (by decide +kernel) ?_
  refine X_goto rfl ?_
  exact X_zret rfl rfl rfl ⟨rfl, rfl⟩ (Nat.le_of_ble_eq_true rfl) (Nat.le_of_ble_eq_true rfl)
theorem c_noStatementT {G : XE} (hG : x_Kn G) {B : XH} {I : Nat → Int32} {T : Int64} {S : Nat → Nat → Int32} {rd tx gv pl : Nat → Int32} (d : Nat) (w : Nat) (hw : I 3 = nI w) (hw9 : w < 9) {x : Int32} (hp : (0 : Int32) ≤ x ∧ x ≤ S w 2 - 1) : x_M G mX11_noStatement (d + 1) 0 0 [.ref 275, .int x] (mset B I T S rd tx gv pl) (x_Ret (mset B (upd I 0 0) T S rd tx gv pl) (.int 0)) x_noX := by
  refine X_M hG okX11_noStatement rfl (L := [some (.ref 275), some (.int x)]) rfl (Nat.le_of_ble_eq_true rfl) (fun ad0 nb0 => ?_)
  refine X_ld rfl rfl rfl rfl ?_
  refine X_push (v := .int 0) rfl (by decide +kernel) ?_
  refine X_mput f_X11_37 rfl rfl ?_
  refine X_ld rfl rfl rfl rfl ?_
  refine X_ld rfl rfl rfl rfl ?_
  refine X_un rfl rfl ?_
  refine X_push (v := .long 0) rfl (by decide +kernel) ?_
  refine X_ld rfl rfl rfl rfl ?_
  refine X_push (v := .int 2) rfl (by decide +kernel) ?_
  refine X_mcall l_X11_X11_get (c_get hG d w (updI_I3 hw) hw9 2 (by omega) rfl) rfl rfl rfl rfl (Nat.le_of_ble_eq_true rfl) (Nat.le_of_ble_eq_true rfl) (Nat.le_refl _) (Nat.le_of_ble_eq_true rfl) (Nat.le_of_ble_eq_true rfl) ?_
  refine X_push (v := .int 1) rfl (by decide +kernel) ?_
  refine X_bin rfl rfl ?_
  refine X_un rfl rfl ?_
  refine X_scall l_X11_X11_isIn (c_isIn hG d (x := x) (y := 0) (z := (S w 2) - 1) rfl (by decide) rfl) rfl rfl rfl (Nat.le_of_ble_eq_true rfl) (Nat.le_of_ble_eq_true rfl) (Nat.le_refl _) (Nat.le_of_ble_eq_true rfl) (Nat.le_of_ble_eq_true rfl) ?_
  refine X_push (v := .int 1) rfl (by decide +kernel) ?_
  refine X_mcall l_X11_X11_right (c_rightT hG d hp updI_eq) rfl rfl rfl rfl (Nat.le_of_ble_eq_true rfl) (Nat.le_of_ble_eq_true rfl) (Nat.le_refl _) (Nat.le_of_ble_eq_true rfl) (Nat.le_of_ble_eq_true rfl) ?_
  refine X_if_ne rfl (fun c24 => ?_) (fun c24 => absurd c24 (by decide))
  refine X_push (v := .int 0) rfl (by decide +kernel) ?_
  exact X_zret rfl rfl rfl ⟨rfl, rfl⟩ (Nat.le_of_ble_eq_true rfl) (Nat.le_of_ble_eq_true rfl)
theorem c_noStatementF {G : XE} (hG : x_Kn G) {B : XH} {I : Nat → Int32} {T : Int64} {S : Nat → Nat → Int32} {rd tx gv pl : Nat → Int32} (d : Nat) (w : Nat) (hw : I 3 = nI w) (hw9 : w < 9) {x : Int32} (hp : ¬ ((0 : Int32) ≤ x ∧ x ≤ S w 2 - 1)) : x_M G mX11_noStatement (d + 1) 0 0 [.ref 275, .int x] (mset B I T S rd tx gv pl) (x_Ret (mset B (upd I 0 1) T S rd tx gv pl) (.int 1)) x_noX := by
  refine X_M hG okX11_noStatement rfl (L := [some (.ref 275), some (.int x)]) rfl (Nat.le_of_ble_eq_true rfl) (fun ad0 nb0 => ?_)
  refine X_ld rfl rfl rfl rfl ?_
  refine X_push (v := .int 0) rfl (by decide +kernel) ?_
  refine X_mput f_X11_37 rfl rfl ?_
  refine X_ld rfl rfl rfl rfl ?_
  refine X_ld rfl rfl rfl rfl ?_
  refine X_un rfl rfl ?_
  refine X_push (v := .long 0) rfl (by decide +kernel) ?_
  refine X_ld rfl rfl rfl rfl ?_
  refine X_push (v := .int 2) rfl (by decide +kernel) ?_
  refine X_mcall l_X11_X11_get (c_get hG d w (updI_I3 hw) hw9 2 (by omega) rfl) rfl rfl rfl rfl (Nat.le_of_ble_eq_true rfl) (Nat.le_of_ble_eq_true rfl) (Nat.le_refl _) (Nat.le_of_ble_eq_true rfl) (Nat.le_of_ble_eq_true rfl) ?_
  refine X_push (v := .int 1) rfl (by decide +kernel) ?_
  refine X_bin rfl rfl ?_
  refine X_un rfl rfl ?_
  refine X_scall l_X11_X11_isIn (c_isIn hG d (x := x) (y := 0) (z := (S w 2) - 1) rfl (by decide) rfl) rfl rfl rfl (Nat.le_of_ble_eq_true rfl) (Nat.le_of_ble_eq_true rfl) (Nat.le_refl _) (Nat.le_of_ble_eq_true rfl) (Nat.le_of_ble_eq_true rfl) ?_
  refine X_push (v := .int 1) rfl (by decide +kernel) ?_
  refine X_mcall l_X11_X11_right (c_rightF hG d hp updI_eq (by decide)) rfl rfl rfl rfl (Nat.le_of_ble_eq_true rfl) (Nat.le_of_ble_eq_true rfl) (Nat.le_refl _) (Nat.le_of_ble_eq_true rfl) (Nat.le_of_ble_eq_true rfl) ?_
  refine X_heap (N' := mset B (upd I 0 1) T S rd tx gv pl) (by rw [upd_upd]) ?_
  refine X_if_ne rfl (fun c24 => absurd (by decide) c24) (fun c24 => ?_)
  refine X_push (v := .int 1) rfl (by decide +kernel) ?_
  refine X_goto rfl ?_
  exact X_zret rfl rfl rfl ⟨rfl, rfl⟩ (Nat.le_of_ble_eq_true rfl) (Nat.le_of_ble_eq_true rfl)
def s_cm (c : Nat → Int32) : Nat := (c 0).toNatClampNeg
def s_lm (c : Nat → Int32) : Nat := (c 1).toNatClampNeg
def s_sm (c : Nat → Int32) : Nat := (c 2).toNatClampNeg
/-- a column's numbers -/
def s_colok (c : Nat → Int32) (j : Nat) : Prop :=
  (s_col c j 8 = 0 ∨ s_col c j 8 = 1 ∨ s_col c j 8 = 2) ∧ (s_col c j 9 = 0 ∨ s_col c j 9 = 1) ∧ (∃ u, u ≤ 40 ∧ s_col c j 10 = nI u ∧ (¬ c 8 = 0 → 1 ≤ u)) ∧ ∃ a b, a ≤ b ∧ b ≤ 9999 ∧ s_col c j 11 = nI a ∧ s_col c j 12 = nI b
/-- a comparison's code -/
def s_cmpok (c : Nat → Int32) (k : Nat) : Prop :=
  (∃ j, j < s_cm c ∧ s_cod c k 1 = nI j) ∧ (s_cod c k 2 = 60 ∨ s_cod c k 2 = 61 ∨ s_cod c k 2 = 62) ∧ ((s_cod c k 3 = 0 ∧ ∃ v, v ≤ 9999 ∧ s_cod c k 4 = nI v) ∨ (s_cod c k 3 = 1 ∧ ∃ j, j < s_cm c ∧ s_cod c k 4 = nI j) ∨ (s_cod c k 3 = 2 ∧ ∃ h, h < 4 ∧ s_cod c k 4 = nI h))
/-- a statement's codes -/
def s_stok (c : Nat → Int32) (s : Nat) : Prop :=
  (∃ f t, f ≤ t ∧ t < 325 ∧ s_st c s 26 = nI f ∧ s_st c s 27 = nI t) ∧ s_fok c s ∧ (∀ k, s_from c s ≤ k → k < s_to c s → s_cod c k 0 = 0 → s_cmpok c k)
/-- what a plan that is kept may be -/
def s_kpok (c : Nat → Int32) (s : Nat) : Prop := s_st c s 14 = -2 ∨ s_st c s 14 = -1 ∨ ∃ j, j < s_cm c ∧ s_st c s 14 = nI j
/-- a row of the reference as calls make it -/
def s_wf (c : Nat → Int32) : Prop :=
  ((∃ m, m ≤ 5 ∧ c 0 = nI m) ∧ (∃ m, m ≤ 40 ∧ c 1 = nI m) ∧ (∃ m, m ≤ 6 ∧ c 2 = nI m) ∧ (∃ m, m ≤ 40 ∧ c 8 = nI m)) ∧ (∀ j, j < s_cm c → s_colok c j) ∧ (∀ s, s < s_sm c → s_stok c s) ∧ (∀ s, s < s_sm c → s_kpok c s)
theorem s_wf.cm {c : Nat → Int32} (h : s_wf c) : ∃ m, m ≤ 5 ∧ c 0 = nI m := h.1.1
theorem s_wf.lm {c : Nat → Int32} (h : s_wf c) : ∃ m, m ≤ 40 ∧ c 1 = nI m := h.1.2.1
theorem s_wf.sm {c : Nat → Int32} (h : s_wf c) : ∃ m, m ≤ 6 ∧ c 2 = nI m := h.1.2.2.1
theorem s_wf.seen {c : Nat → Int32} (h : s_wf c) : ∃ m, m ≤ 40 ∧ c 8 = nI m := h.1.2.2.2
theorem s_wf.col {c : Nat → Int32} (h : s_wf c) : ∀ j, j < s_cm c → s_colok c j := h.2.1
theorem s_wf.st {c : Nat → Int32} (h : s_wf c) : ∀ s, s < s_sm c → s_stok c s := h.2.2.1
theorem s_wf.kp {c : Nat → Int32} (h : s_wf c) : ∀ s, s < s_sm c → s_kpok c s := h.2.2.2
theorem s_wf.cmE {c : Nat → Int32} (h : s_wf c) : c 0 = nI (s_cm c) ∧ s_cm c ≤ 5 := by
  obtain ⟨m, h1, h2⟩ := h.cm
  have e : s_cm c = m := by unfold s_cm; rw [h2]; exact nI_clamp (by omega)
  rw [e]; exact ⟨h2, h1⟩
theorem s_wf.lmE {c : Nat → Int32} (h : s_wf c) : c 1 = nI (s_lm c) ∧ s_lm c ≤ 40 := by
  obtain ⟨m, h1, h2⟩ := h.lm
  have e : s_lm c = m := by unfold s_lm; rw [h2]; exact nI_clamp (by omega)
  rw [e]; exact ⟨h2, h1⟩
theorem s_wf.smE {c : Nat → Int32} (h : s_wf c) : c 2 = nI (s_sm c) ∧ s_sm c ≤ 6 := by
  obtain ⟨m, h1, h2⟩ := h.sm
  have e : s_sm c = m := by unfold s_sm; rw [h2]; exact nI_clamp (by omega)
  rw [e]; exact ⟨h2, h1⟩
theorem s_wf.kok {c : Nat → Int32} (h : s_wf c) {s : Nat} (hs : s < s_sm c) : s_kok c s := by
  obtain ⟨h1, -, h3⟩ := h.st s hs
  refine ⟨h1, fun k hk1 hk2 h0 => ?_⟩
  obtain ⟨⟨j, hj1, hj2⟩, -, hw⟩ := h3 k hk1 hk2 h0
  obtain ⟨-, -, ⟨u, hu0, hu1, hu2⟩, a, b, hab, hb, ha1, hb1⟩ := h.col j hj1
  refine ⟨j, Nat.lt_of_lt_of_le hj1 h.cmE.2, hj2, fun hk => ?_, fun h8 => ?_, ?_⟩
  · rcases hw with ⟨e, -⟩ | ⟨e, -⟩ | ⟨-, hh⟩
    · rw [e] at hk; exact absurd hk (by decide)
    · rw [e] at hk; exact absurd hk (by decide)
    · exact hh
  · rw [hu1]
    exact fun q => absurd ((n_eq (b := 0) rfl rfl (by omega) (by omega)).mp q) (by have := hu2 h8; omega)
  · rw [ha1, hb1, m_subc hab rfl]
    exact fun q => absurd ((n_eq (b := 0) (m_inc rfl) rfl (by omega) (by omega)).mp q) (by omega)
theorem s_wf.fok {c : Nat → Int32} (h : s_wf c) {s : Nat} (hs : s < s_sm c) : s_fok c s := (h.st s hs).2.1
theorem a_ret {B : XH} {I : Nat → Int32} {T : Int64} {S : Nat → Nat → Int32} {rd tx gv pl : Nat → Int32} {A : Int32 × Int32} {t v : Int32} (h : A = (t, v)) : x_Ret (mset B (upd I 0 A.1) T S rd tx gv pl) (.int A.2) (mset B (upd I 0 t) T S rd tx gv pl) (some (.int v)) := by rw [h]; exact ⟨rfl, rfl⟩
abbrev n_ (x : Int32) : Nat := x.toNatClampNeg
def a_count (c : Nat → Int32) (x : Int32) : Int32 × Int32 := if (0 : Int32) ≤ x ∧ x ≤ 8 then (0, c (n_ x)) else (1, 0)
theorem c_count {G : XE} (hG : x_Kn G) {B : XH} {I : Nat → Int32} {T : Int64} {S : Nat → Nat → Int32} {rd tx gv pl : Nat → Int32} (d : Nat) (w : Nat) (hw : I 3 = nI w) (hw9 : w < 9) {x : Int32} : x_M G mX11_count (d + 1) 0 0 [.ref 275, .int x] (mset B I T S rd tx gv pl) (x_Ret (mset B (upd I 0 (a_count (S w) x).1) T S rd tx gv pl) (.int (a_count (S w) x).2)) x_noX := by
  refine X_M hG okX11_count rfl (L := [some (.ref 275), some (.int x)]) rfl (Nat.le_of_ble_eq_true rfl) (fun ad0 nb0 => ?_)
  refine X_ld rfl rfl rfl rfl ?_
  refine X_push (v := .int 0) rfl (by decide +kernel) ?_
  refine X_mput f_X11_37 rfl rfl ?_
  refine X_ld rfl rfl rfl rfl ?_
  refine X_ld rfl rfl rfl rfl ?_
  refine X_un rfl rfl ?_
  refine X_push (v := .long 0) rfl (by decide +kernel) ?_
  refine X_ldc2 k_X11_292 rfl ?_
  refine X_scall l_X11_X11_isIn (c_isIn hG d (x := x) (y := 0) (z := 8) rfl (by decide) (by decide)) rfl rfl rfl (Nat.le_of_ble_eq_true rfl) (Nat.le_of_ble_eq_true rfl) (Nat.le_refl _) (Nat.le_of_ble_eq_true rfl) (Nat.le_of_ble_eq_true rfl) ?_
  refine X_push (v := .int 1) rfl (by decide +kernel) ?_
  by_cases h16 : (0 : Int32) ≤ x ∧ x ≤ 8
  · refine X_mcall l_X11_X11_right (c_rightT hG d h16 updI_eq) rfl rfl rfl rfl (Nat.le_of_ble_eq_true rfl) (Nat.le_of_ble_eq_true rfl) (Nat.le_refl _) (Nat.le_of_ble_eq_true rfl) (Nat.le_of_ble_eq_true rfl) ?_
    refine X_if_eq rfl (fun c19 => absurd c19 (by decide)) (fun c19 => ?_)
    obtain ⟨j, hj1, hj2⟩ := m_rngc (m := 8) rfl (by omega) h16
    have ej : n_ x = j := by unfold n_; rw [hj2]; exact nI_clamp (by omega)
    refine X_ld rfl rfl rfl rfl ?_
    refine X_ld rfl rfl rfl rfl ?_
    refine X_mcall l_X11_X11_get (c_get hG d w (updI_I3 hw) hw9 j (by omega) hj2) rfl rfl rfl rfl (Nat.le_of_ble_eq_true rfl) (Nat.le_of_ble_eq_true rfl) (Nat.le_refl _) (Nat.le_of_ble_eq_true rfl) (Nat.le_of_ble_eq_true rfl) ?_
    refine X_goto rfl ?_
    exact X_iret rfl rfl (a_ret (by unfold a_count; rw [if_pos h16, ej])) (Nat.le_of_ble_eq_true rfl) (Nat.le_of_ble_eq_true rfl)
  · refine X_mcall l_X11_X11_right (c_rightF hG d h16 updI_eq (by decide)) rfl rfl rfl rfl (Nat.le_of_ble_eq_true rfl) (Nat.le_of_ble_eq_true rfl) (Nat.le_refl _) (Nat.le_of_ble_eq_true rfl) (Nat.le_of_ble_eq_true rfl) ?_
    refine X_heap (N' := mset B (upd I 0 1) T S rd tx gv pl) (by rw [upd_upd]) ?_
    refine X_if_eq rfl (fun c19 => ?_) (fun c19 => absurd (by decide) c19)
    refine X_push (v := .int 0) rfl (by decide +kernel) ?_
    exact X_iret rfl rfl (a_ret (by unfold a_count; rw [if_neg h16])) (Nat.le_of_ble_eq_true rfl) (Nat.le_of_ble_eq_true rfl)
def a_column (c : Nat → Int32) (x y : Int32) : Int32 × Int32 :=
  if (0 : Int32) ≤ x ∧ x ≤ c 0 - 1 then (if (0 : Int32) ≤ y ∧ y ≤ 4 then (0, s_col c (n_ x) (8 + n_ y)) else (2, 0)) else (1, 0)
theorem c_column {G : XE} (hG : x_Kn G) {B : XH} {I : Nat → Int32} {T : Int64} {S : Nat → Nat → Int32} {rd tx gv pl : Nat → Int32} (d : Nat) (w : Nat) (hw : I 3 = nI w) (hw9 : w < 9) (hwf : s_wf (S w)) {x y : Int32} : x_M G mX11_column (d + 2) 0 0 [.ref 275, .int x, .int y] (mset B I T S rd tx gv pl) (x_Ret (mset B (upd I 0 (a_column (S w) x y).1) T S rd tx gv pl) (.int (a_column (S w) x y).2)) x_noX := by
  refine X_M hG okX11_column rfl (L := [some (.ref 275), some (.int x), some (.int y)]) rfl (Nat.le_of_ble_eq_true rfl) (fun ad0 nb0 => ?_)
  have hcm5 := hwf.cmE.2
  have hlm40 := hwf.lmE.2
  have hsm6 := hwf.smE.2
  refine X_ld rfl rfl rfl rfl ?_
  refine X_push (v := .int 0) rfl (by decide +kernel) ?_
  refine X_mput f_X11_37 rfl rfl ?_
  refine X_ld rfl rfl rfl rfl ?_
  refine X_ld rfl rfl rfl rfl ?_
  by_cases h7 : (0 : Int32) ≤ x ∧ x ≤ S w 0 - 1
  · refine X_mcall l_X11_X11_noColumn (c_noColumnT hG d w (updI_I3 hw) hw9 updI_eq h7) rfl rfl rfl rfl (Nat.le_of_ble_eq_true rfl) (Nat.le_of_ble_eq_true rfl) (Nat.le_refl _) (Nat.le_of_ble_eq_true rfl) (Nat.le_of_ble_eq_true rfl) ?_
    refine X_if_ne rfl (fun c10 => absurd (by decide) c10) (fun c10 => ?_)
    refine X_ld rfl rfl rfl rfl ?_
    refine X_ld rfl rfl rfl rfl ?_
    refine X_un rfl rfl ?_
    refine X_push (v := .long 0) rfl (by decide +kernel) ?_
    refine X_ldc2 k_X11_297 rfl ?_
    refine X_scall l_X11_X11_isIn (c_isIn hG (d + 1) (x := y) (y := 0) (z := 4) rfl (by decide) (by decide)) rfl rfl rfl (Nat.le_of_ble_eq_true rfl) (Nat.le_of_ble_eq_true rfl) (Nat.le_refl _) (Nat.le_of_ble_eq_true rfl) (Nat.le_of_ble_eq_true rfl) ?_
    refine X_push (v := .int 2) rfl (by decide +kernel) ?_
    by_cases h24 : (0 : Int32) ≤ y ∧ y ≤ 4
    · refine X_mcall l_X11_X11_right (c_rightT hG (d + 1) h24 updI_eq) rfl rfl rfl rfl (Nat.le_of_ble_eq_true rfl) (Nat.le_of_ble_eq_true rfl) (Nat.le_refl _) (Nat.le_of_ble_eq_true rfl) (Nat.le_of_ble_eq_true rfl) ?_
      refine X_if_ne rfl (fun c27 => ?_) (fun c27 => absurd c27 (by decide))
      obtain ⟨j, hj1, hj2⟩ := m_rng hwf.cmE.1 (by have := hwf.cmE.2; omega) h7
      have ej : n_ x = j := by unfold n_; rw [hj2]; exact nI_clamp (by omega)
      obtain ⟨q, hq1, hq2⟩ := m_rngc (m := 4) rfl (by omega) h24
      have eq : n_ y = q := by unfold n_; rw [hq2]; exact nI_clamp (by omega)
      refine X_ld rfl rfl rfl rfl ?_
      refine X_ld rfl rfl rfl rfl ?_
      refine X_push (v := .int 8) rfl (by decide +kernel) ?_
      refine X_ld rfl rfl rfl rfl ?_
      refine X_bin rfl rfl ?_
      refine X_mcall l_X11_X11_ofColumn (c_ofColumn hG d w (updI_I3 hw) hw9 j (8 + q) (by omega) hj2 (m_add rfl hq2)) rfl rfl rfl rfl (Nat.le_of_ble_eq_true rfl) (Nat.le_of_ble_eq_true rfl) (Nat.le_refl _) (Nat.le_of_ble_eq_true rfl) (Nat.le_of_ble_eq_true rfl) ?_
      exact X_iret rfl rfl (a_ret (by unfold a_column; rw [if_pos h7, if_pos h24, ej, eq])) (Nat.le_of_ble_eq_true rfl) (Nat.le_of_ble_eq_true rfl)
    · refine X_mcall l_X11_X11_right (c_rightF hG (d + 1) h24 updI_eq (by decide)) rfl rfl rfl rfl (Nat.le_of_ble_eq_true rfl) (Nat.le_of_ble_eq_true rfl) (Nat.le_refl _) (Nat.le_of_ble_eq_true rfl) (Nat.le_of_ble_eq_true rfl) ?_
      refine X_heap (N' := mset B (upd I 0 2) T S rd tx gv pl) (by rw [upd_upd]) ?_
      refine X_if_ne rfl (fun c27 => absurd (by decide) c27) (fun c27 => ?_)
      refine X_push (v := .int 0) rfl (by decide +kernel) ?_
      refine X_goto rfl ?_
      exact X_iret rfl rfl (a_ret (by unfold a_column; rw [if_pos h7, if_neg h24])) (Nat.le_of_ble_eq_true rfl) (Nat.le_of_ble_eq_true rfl)
  · refine X_mcall l_X11_X11_noColumn (c_noColumnF hG d w (updI_I3 hw) hw9 updI_eq h7) rfl rfl rfl rfl (Nat.le_of_ble_eq_true rfl) (Nat.le_of_ble_eq_true rfl) (Nat.le_refl _) (Nat.le_of_ble_eq_true rfl) (Nat.le_of_ble_eq_true rfl) ?_
    refine X_heap (N' := mset B (upd I 0 1) T S rd tx gv pl) (by rw [upd_upd]) ?_
    refine X_if_ne rfl (fun c10 => ?_) (fun c10 => absurd c10 (by decide))
    refine X_push (v := .int 0) rfl (by decide +kernel) ?_
    refine X_goto rfl ?_
    exact X_iret rfl rfl (a_ret (by unfold a_column; rw [if_neg h7])) (Nat.le_of_ble_eq_true rfl) (Nat.le_of_ble_eq_true rfl)
def a_value (c : Nat → Int32) (x y : Int32) : Int32 × Int32 :=
  if (0 : Int32) ≤ x ∧ x ≤ c 1 - 1 then (if (0 : Int32) ≤ y ∧ y ≤ c 0 - 1 then (0, s_val c (n_ x) (n_ y)) else (1, 0)) else (1, 0)
theorem c_value {G : XE} (hG : x_Kn G) {B : XH} {I : Nat → Int32} {T : Int64} {S : Nat → Nat → Int32} {rd tx gv pl : Nat → Int32} (d : Nat) (w : Nat) (hw : I 3 = nI w) (hw9 : w < 9) (hwf : s_wf (S w)) {x y : Int32} : x_M G mX11_value (d + 2) 0 0 [.ref 275, .int x, .int y] (mset B I T S rd tx gv pl) (x_Ret (mset B (upd I 0 (a_value (S w) x y).1) T S rd tx gv pl) (.int (a_value (S w) x y).2)) x_noX := by
  refine X_M hG okX11_value rfl (L := [some (.ref 275), some (.int x), some (.int y)]) rfl (Nat.le_of_ble_eq_true rfl) (fun ad0 nb0 => ?_)
  have hcm5 := hwf.cmE.2
  have hlm40 := hwf.lmE.2
  have hsm6 := hwf.smE.2
  refine X_ld rfl rfl rfl rfl ?_
  refine X_push (v := .int 0) rfl (by decide +kernel) ?_
  refine X_mput f_X11_37 rfl rfl ?_
  refine X_ld rfl rfl rfl rfl ?_
  refine X_ld rfl rfl rfl rfl ?_
  refine X_un rfl rfl ?_
  refine X_push (v := .long 0) rfl (by decide +kernel) ?_
  refine X_ld rfl rfl rfl rfl ?_
  refine X_push (v := .int 1) rfl (by decide +kernel) ?_
  refine X_mcall l_X11_X11_get (c_get hG (d + 1) w (updI_I3 hw) hw9 1 (by omega) rfl) rfl rfl rfl rfl (Nat.le_of_ble_eq_true rfl) (Nat.le_of_ble_eq_true rfl) (Nat.le_refl _) (Nat.le_of_ble_eq_true rfl) (Nat.le_of_ble_eq_true rfl) ?_
  refine X_push (v := .int 1) rfl (by decide +kernel) ?_
  refine X_bin rfl rfl ?_
  refine X_un rfl rfl ?_
  refine X_scall l_X11_X11_isIn (c_isIn hG (d + 1) (x := x) (y := 0) (z := (S w 1) - 1) rfl (by decide) rfl) rfl rfl rfl (Nat.le_of_ble_eq_true rfl) (Nat.le_of_ble_eq_true rfl) (Nat.le_refl _) (Nat.le_of_ble_eq_true rfl) (Nat.le_of_ble_eq_true rfl) ?_
  refine X_push (v := .int 1) rfl (by decide +kernel) ?_
  by_cases h21 : (0 : Int32) ≤ x ∧ x ≤ (S w 1) - 1
  · refine X_mcall l_X11_X11_right (c_rightT hG (d + 1) h21 updI_eq) rfl rfl rfl rfl (Nat.le_of_ble_eq_true rfl) (Nat.le_of_ble_eq_true rfl) (Nat.le_refl _) (Nat.le_of_ble_eq_true rfl) (Nat.le_of_ble_eq_true rfl) ?_
    refine X_if_eq rfl (fun c24 => absurd c24 (by decide)) (fun c24 => ?_)
    refine X_ld rfl rfl rfl rfl ?_
    refine X_ld rfl rfl rfl rfl ?_
    by_cases h29 : (0 : Int32) ≤ y ∧ y ≤ S w 0 - 1
    · refine X_mcall l_X11_X11_noColumn (c_noColumnT hG d w (updI_I3 hw) hw9 updI_eq h29) rfl rfl rfl rfl (Nat.le_of_ble_eq_true rfl) (Nat.le_of_ble_eq_true rfl) (Nat.le_refl _) (Nat.le_of_ble_eq_true rfl) (Nat.le_of_ble_eq_true rfl) ?_
      refine X_if_eq rfl (fun c32 => ?_) (fun c32 => absurd (by decide) c32)
      obtain ⟨l, hl1, hl2⟩ := m_rng hwf.lmE.1 (by have := hwf.lmE.2; omega) h21
      have el : n_ x = l := by unfold n_; rw [hl2]; exact nI_clamp (by omega)
      obtain ⟨j, hj1, hj2⟩ := m_rng hwf.cmE.1 (by have := hwf.cmE.2; omega) h29
      have ej : n_ y = j := by unfold n_; rw [hj2]; exact nI_clamp (by omega)
      refine X_ld rfl rfl rfl rfl ?_
      refine X_ld rfl rfl rfl rfl ?_
      refine X_ld rfl rfl rfl rfl ?_
      refine X_scall l_X11_X11_valueAt (c_valueAt hG (d + 1) ) rfl rfl rfl (Nat.le_of_ble_eq_true rfl) (Nat.le_of_ble_eq_true rfl) (Nat.le_refl _) (Nat.le_of_ble_eq_true rfl) (Nat.le_of_ble_eq_true rfl) ?_
      refine X_mcall l_X11_X11_get (c_get hG (d + 1) w (updI_I3 hw) hw9 (75 + 5 * l + j) (by omega) (m_valueAt hl2 hj2)) rfl rfl rfl rfl (Nat.le_of_ble_eq_true rfl) (Nat.le_of_ble_eq_true rfl) (Nat.le_refl _) (Nat.le_of_ble_eq_true rfl) (Nat.le_of_ble_eq_true rfl) ?_
      exact X_iret rfl rfl (a_ret (by unfold a_value; rw [if_pos h21, if_pos h29, el, ej])) (Nat.le_of_ble_eq_true rfl) (Nat.le_of_ble_eq_true rfl)
    · refine X_mcall l_X11_X11_noColumn (c_noColumnF hG d w (updI_I3 hw) hw9 updI_eq h29) rfl rfl rfl rfl (Nat.le_of_ble_eq_true rfl) (Nat.le_of_ble_eq_true rfl) (Nat.le_refl _) (Nat.le_of_ble_eq_true rfl) (Nat.le_of_ble_eq_true rfl) ?_
      refine X_heap (N' := mset B (upd I 0 1) T S rd tx gv pl) (by rw [upd_upd]) ?_
      refine X_if_eq rfl (fun c32 => absurd c32 (by decide)) (fun c32 => ?_)
      refine X_push (v := .int 0) rfl (by decide +kernel) ?_
      refine X_goto rfl ?_
      exact X_iret rfl rfl (a_ret (by unfold a_value; rw [if_pos h21, if_neg h29])) (Nat.le_of_ble_eq_true rfl) (Nat.le_of_ble_eq_true rfl)
  · refine X_mcall l_X11_X11_right (c_rightF hG (d + 1) h21 updI_eq (by decide)) rfl rfl rfl rfl (Nat.le_of_ble_eq_true rfl) (Nat.le_of_ble_eq_true rfl) (Nat.le_refl _) (Nat.le_of_ble_eq_true rfl) (Nat.le_of_ble_eq_true rfl) ?_
    refine X_heap (N' := mset B (upd I 0 1) T S rd tx gv pl) (by rw [upd_upd]) ?_
    refine X_if_eq rfl (fun c24 => ?_) (fun c24 => absurd (by decide) c24)
    refine X_push (v := .int 0) rfl (by decide +kernel) ?_
    refine X_goto rfl ?_
    exact X_iret rfl rfl (a_ret (by unfold a_value; rw [if_neg h21])) (Nat.le_of_ble_eq_true rfl) (Nat.le_of_ble_eq_true rfl)
def a_hole (c : Nat → Int32) (x y : Int32) : Int32 × Int32 :=
  if (0 : Int32) ≤ x ∧ x ≤ c 2 - 1 then (if (0 : Int32) ≤ y ∧ y ≤ 3 then (0, s_st c (n_ x) (17 + n_ y)) else (2, 0)) else (1, 0)
theorem c_hole {G : XE} (hG : x_Kn G) {B : XH} {I : Nat → Int32} {T : Int64} {S : Nat → Nat → Int32} {rd tx gv pl : Nat → Int32} (d : Nat) (w : Nat) (hw : I 3 = nI w) (hw9 : w < 9) (hwf : s_wf (S w)) {x y : Int32} : x_M G mX11_hole (d + 2) 0 0 [.ref 275, .int x, .int y] (mset B I T S rd tx gv pl) (x_Ret (mset B (upd I 0 (a_hole (S w) x y).1) T S rd tx gv pl) (.int (a_hole (S w) x y).2)) x_noX := by
  refine X_M hG okX11_hole rfl (L := [some (.ref 275), some (.int x), some (.int y)]) rfl (Nat.le_of_ble_eq_true rfl) (fun ad0 nb0 => ?_)
  have hcm5 := hwf.cmE.2
  have hlm40 := hwf.lmE.2
  have hsm6 := hwf.smE.2
  refine X_ld rfl rfl rfl rfl ?_
  refine X_ld rfl rfl rfl rfl ?_
  by_cases h2 : (0 : Int32) ≤ x ∧ x ≤ S w 2 - 1
  · refine X_mcall l_X11_X11_noStatement (c_noStatementT hG d w hw hw9 h2) rfl rfl rfl rfl (Nat.le_of_ble_eq_true rfl) (Nat.le_of_ble_eq_true rfl) (Nat.le_refl _) (Nat.le_of_ble_eq_true rfl) (Nat.le_of_ble_eq_true rfl) ?_
    refine X_if_ne rfl (fun c5 => absurd (by decide) c5) (fun c5 => ?_)
    refine X_ld rfl rfl rfl rfl ?_
    refine X_ld rfl rfl rfl rfl ?_
    refine X_un rfl rfl ?_
    refine X_push (v := .long 0) rfl (by decide +kernel) ?_
    refine X_ldc2 k_X11_305 rfl ?_
    refine X_scall l_X11_X11_isIn (c_isIn hG (d + 1) (x := y) (y := 0) (z := 3) rfl (by decide) (by decide)) rfl rfl rfl (Nat.le_of_ble_eq_true rfl) (Nat.le_of_ble_eq_true rfl) (Nat.le_refl _) (Nat.le_of_ble_eq_true rfl) (Nat.le_of_ble_eq_true rfl) ?_
    refine X_push (v := .int 2) rfl (by decide +kernel) ?_
    by_cases h19 : (0 : Int32) ≤ y ∧ y ≤ 3
    · refine X_mcall l_X11_X11_right (c_rightT hG (d + 1) h19 updI_eq) rfl rfl rfl rfl (Nat.le_of_ble_eq_true rfl) (Nat.le_of_ble_eq_true rfl) (Nat.le_refl _) (Nat.le_of_ble_eq_true rfl) (Nat.le_of_ble_eq_true rfl) ?_
      refine X_if_ne rfl (fun c22 => ?_) (fun c22 => absurd c22 (by decide))
      obtain ⟨s, hs1, hs2⟩ := m_rng hwf.smE.1 (by have := hwf.smE.2; omega) h2
      have es : n_ x = s := by unfold n_; rw [hs2]; exact nI_clamp (by omega)
      obtain ⟨q, hq1, hq2⟩ := m_rngc (m := 3) rfl (by omega) h19
      have eq : n_ y = q := by unfold n_; rw [hq2]; exact nI_clamp (by omega)
      refine X_ld rfl rfl rfl rfl ?_
      refine X_ld rfl rfl rfl rfl ?_
      refine X_push (v := .int 17) rfl (by decide +kernel) ?_
      refine X_ld rfl rfl rfl rfl ?_
      refine X_bin rfl rfl ?_
      refine X_mcall l_X11_X11_ofStatement (c_ofStatement hG d w (updI_I3 hw) hw9 s (17 + q) (by omega) hs2 (m_add rfl hq2)) rfl rfl rfl rfl (Nat.le_of_ble_eq_true rfl) (Nat.le_of_ble_eq_true rfl) (Nat.le_refl _) (Nat.le_of_ble_eq_true rfl) (Nat.le_of_ble_eq_true rfl) ?_
      exact X_iret rfl rfl (a_ret (by unfold a_hole; rw [if_pos h2, if_pos h19, es, eq])) (Nat.le_of_ble_eq_true rfl) (Nat.le_of_ble_eq_true rfl)
    · refine X_mcall l_X11_X11_right (c_rightF hG (d + 1) h19 updI_eq (by decide)) rfl rfl rfl rfl (Nat.le_of_ble_eq_true rfl) (Nat.le_of_ble_eq_true rfl) (Nat.le_refl _) (Nat.le_of_ble_eq_true rfl) (Nat.le_of_ble_eq_true rfl) ?_
      refine X_heap (N' := mset B (upd I 0 2) T S rd tx gv pl) (by rw [upd_upd]) ?_
      refine X_if_ne rfl (fun c22 => absurd (by decide) c22) (fun c22 => ?_)
      refine X_push (v := .int 0) rfl (by decide +kernel) ?_
      refine X_goto rfl ?_
      exact X_iret rfl rfl (a_ret (by unfold a_hole; rw [if_pos h2, if_neg h19])) (Nat.le_of_ble_eq_true rfl) (Nat.le_of_ble_eq_true rfl)
  · refine X_mcall l_X11_X11_noStatement (c_noStatementF hG d w hw hw9 h2) rfl rfl rfl rfl (Nat.le_of_ble_eq_true rfl) (Nat.le_of_ble_eq_true rfl) (Nat.le_refl _) (Nat.le_of_ble_eq_true rfl) (Nat.le_of_ble_eq_true rfl) ?_
    refine X_if_ne rfl (fun c5 => ?_) (fun c5 => absurd c5 (by decide))
    refine X_push (v := .int 0) rfl (by decide +kernel) ?_
    refine X_goto rfl ?_
    exact X_iret rfl rfl (a_ret (by unfold a_hole; rw [if_neg h2])) (Nat.le_of_ble_eq_true rfl) (Nat.le_of_ble_eq_true rfl)
def s_state (c : Nat → Int32) (s : Nat) : Int32 := if s_st c s 14 = -2 then 0 else if s_st c s 16 = c 3 then 1 else 2
theorem c_stateOf {G : XE} (hG : x_Kn G) {B : XH} {I : Nat → Int32} {T : Int64} {S : Nat → Nat → Int32} {rd tx gv pl : Nat → Int32} (d : Nat) (w : Nat) (hw : I 3 = nI w) (hw9 : w < 9) (s : Nat) (hs : s < 6) {x : Int32} (hx : x = nI s) : x_M G mX11_stateOf (d + 2) 0 0 [.ref 275, .int x] (mset B I T S rd tx gv pl) (x_Ret (mset B I T S rd tx gv pl) (.int (s_state (S w) s))) x_noX := by
  refine X_M hG okX11_stateOf rfl (L := [some (.ref 275), some (.int x)]) rfl (Nat.le_of_ble_eq_true rfl) (fun ad0 nb0 => ?_)
  refine X_ld rfl rfl rfl rfl ?_
  refine X_ld rfl rfl rfl rfl ?_
  refine X_push (v := .int 14) rfl (by decide +kernel) ?_
  refine X_mcall l_X11_X11_ofStatement (c_ofStatement hG d w hw hw9 s 14 (by omega) hx rfl) rfl rfl rfl rfl (Nat.le_of_ble_eq_true rfl) (Nat.le_of_ble_eq_true rfl) (Nat.le_refl _) (Nat.le_of_ble_eq_true rfl) (Nat.le_of_ble_eq_true rfl) ?_
  refine X_push (v := .int (-2)) rfl (by decide +kernel) ?_
  refine X_icmp_ne rfl (fun c9 => ?_) (fun c9 => ?_)
  · refine X_ld rfl rfl rfl rfl ?_
    refine X_ld rfl rfl rfl rfl ?_
    refine X_push (v := .int 16) rfl (by decide +kernel) ?_
    refine X_mcall l_X11_X11_ofStatement (c_ofStatement hG d w hw hw9 s 16 (by omega) hx rfl) rfl rfl rfl rfl (Nat.le_of_ble_eq_true rfl) (Nat.le_of_ble_eq_true rfl) (Nat.le_refl _) (Nat.le_of_ble_eq_true rfl) (Nat.le_of_ble_eq_true rfl) ?_
    refine X_ld rfl rfl rfl rfl ?_
    refine X_push (v := .int 3) rfl (by decide +kernel) ?_
    refine X_mcall l_X11_X11_get (c_get hG (d + 1) w hw hw9 3 (by omega) rfl) rfl rfl rfl rfl (Nat.le_of_ble_eq_true rfl) (Nat.le_of_ble_eq_true rfl) (Nat.le_refl _) (Nat.le_of_ble_eq_true rfl) (Nat.le_of_ble_eq_true rfl) ?_
    refine X_icmp_ne rfl (fun c28 => ?_) (fun c28 => ?_)
    · refine X_push (v := .int 2) rfl (by decide +kernel) ?_
      exact X_iret rfl rfl ⟨rfl, by unfold s_state; rw [if_neg c9, if_neg c28]⟩ (Nat.le_of_ble_eq_true rfl) (Nat.le_of_ble_eq_true rfl)
    · refine X_push (v := .int 1) rfl (by decide +kernel) ?_
      refine X_goto rfl ?_
      exact X_iret rfl rfl ⟨rfl, by unfold s_state; rw [if_neg c9, if_pos c28]⟩ (Nat.le_of_ble_eq_true rfl) (Nat.le_of_ble_eq_true rfl)
  · refine X_push (v := .int 0) rfl (by decide +kernel) ?_
    refine X_goto rfl ?_
    exact X_iret rfl rfl ⟨rfl, by unfold s_state; rw [if_pos c9]⟩ (Nat.le_of_ble_eq_true rfl) (Nat.le_of_ble_eq_true rfl)
def s_told (c : Nat → Int32) (s n : Nat) : Int32 := if n = 4 then s_state c s else s_st c s (8 + n)
theorem c_toldOf {G : XE} (hG : x_Kn G) {B : XH} {I : Nat → Int32} {T : Int64} {S : Nat → Nat → Int32} {rd tx gv pl : Nat → Int32} (d : Nat) (w : Nat) (hw : I 3 = nI w) (hw9 : w < 9) (s : Nat) (hs : s < 6) {x : Int32} (hx : x = nI s) (n : Nat) (hn : n ≤ 5) {y : Int32} (hy : y = nI n) : x_M G mX11_toldOf (d + 3) 0 0 [.ref 275, .int x, .int y] (mset B I T S rd tx gv pl) (x_Ret (mset B I T S rd tx gv pl) (.int (s_told (S w) s n))) x_noX := by
  refine X_M hG okX11_toldOf rfl (L := [some (.ref 275), some (.int x), some (.int y)]) rfl (Nat.le_of_ble_eq_true rfl) (fun ad0 nb0 => ?_)
  refine X_ld rfl rfl rfl rfl ?_
  refine X_push (v := .int 4) rfl (by decide +kernel) ?_
  refine X_icmp_ne rfl (fun c2 => ?_) (fun c2 => ?_)
  · have n2 := fun q => c2 ((n_eq (a := n) (b := 4) hy rfl (by omega) (by omega)).mpr q)
    refine X_ld rfl rfl rfl rfl ?_
    refine X_ld rfl rfl rfl rfl ?_
    refine X_push (v := .int 8) rfl (by decide +kernel) ?_
    refine X_ld rfl rfl rfl rfl ?_
    refine X_bin rfl rfl ?_
    refine X_mcall l_X11_X11_ofStatement (c_ofStatement hG (d + 1) w hw hw9 s (8 + n) (by omega) hx (m_add rfl hy)) rfl rfl rfl rfl (Nat.le_of_ble_eq_true rfl) (Nat.le_of_ble_eq_true rfl) (Nat.le_refl _) (Nat.le_of_ble_eq_true rfl) (Nat.le_of_ble_eq_true rfl) ?_
    exact X_iret rfl rfl ⟨rfl, by unfold s_told; rw [if_neg n2]⟩ (Nat.le_of_ble_eq_true rfl) (Nat.le_of_ble_eq_true rfl)
  · have n2 := (n_eq (a := n) (b := 4) hy rfl (by omega) (by omega)).mp c2
    refine X_ld rfl rfl rfl rfl ?_
    refine X_ld rfl rfl rfl rfl ?_
    refine X_mcall l_X11_X11_stateOf (c_stateOf hG d w hw hw9 s hs hx) rfl rfl rfl rfl (Nat.le_of_ble_eq_true rfl) (Nat.le_of_ble_eq_true rfl) (Nat.le_refl _) (Nat.le_of_ble_eq_true rfl) (Nat.le_of_ble_eq_true rfl) ?_
    refine X_goto rfl ?_
    exact X_iret rfl rfl ⟨rfl, by unfold s_told; rw [if_pos n2]⟩ (Nat.le_of_ble_eq_true rfl) (Nat.le_of_ble_eq_true rfl)
def a_statement (c : Nat → Int32) (x y : Int32) : Int32 × Int32 :=
  if (0 : Int32) ≤ x ∧ x ≤ c 2 - 1 then (if (0 : Int32) ≤ y ∧ y ≤ 5 then (0, s_told c (n_ x) (n_ y)) else (2, 0)) else (1, 0)
theorem c_statement {G : XE} (hG : x_Kn G) {B : XH} {I : Nat → Int32} {T : Int64} {S : Nat → Nat → Int32} {rd tx gv pl : Nat → Int32} (d : Nat) (w : Nat) (hw : I 3 = nI w) (hw9 : w < 9) (hwf : s_wf (S w)) {x y : Int32} : x_M G mX11_statement (d + 4) 0 0 [.ref 275, .int x, .int y] (mset B I T S rd tx gv pl) (x_Ret (mset B (upd I 0 (a_statement (S w) x y).1) T S rd tx gv pl) (.int (a_statement (S w) x y).2)) x_noX := by
  refine X_M hG okX11_statement rfl (L := [some (.ref 275), some (.int x), some (.int y)]) rfl (Nat.le_of_ble_eq_true rfl) (fun ad0 nb0 => ?_)
  have hcm5 := hwf.cmE.2
  have hlm40 := hwf.lmE.2
  have hsm6 := hwf.smE.2
  refine X_ld rfl rfl rfl rfl ?_
  refine X_ld rfl rfl rfl rfl ?_
  by_cases h2 : (0 : Int32) ≤ x ∧ x ≤ S w 2 - 1
  · refine X_mcall l_X11_X11_noStatement (c_noStatementT hG (d + 2) w hw hw9 h2) rfl rfl rfl rfl (Nat.le_of_ble_eq_true rfl) (Nat.le_of_ble_eq_true rfl) (Nat.le_refl _) (Nat.le_of_ble_eq_true rfl) (Nat.le_of_ble_eq_true rfl) ?_
    refine X_if_ne rfl (fun c5 => absurd (by decide) c5) (fun c5 => ?_)
    refine X_ld rfl rfl rfl rfl ?_
    refine X_ld rfl rfl rfl rfl ?_
    refine X_un rfl rfl ?_
    refine X_push (v := .long 0) rfl (by decide +kernel) ?_
    refine X_ldc2 k_X11_310 rfl ?_
    refine X_scall l_X11_X11_isIn (c_isIn hG (d + 3) (x := y) (y := 0) (z := 5) rfl (by decide) (by decide)) rfl rfl rfl (Nat.le_of_ble_eq_true rfl) (Nat.le_of_ble_eq_true rfl) (Nat.le_refl _) (Nat.le_of_ble_eq_true rfl) (Nat.le_of_ble_eq_true rfl) ?_
    refine X_push (v := .int 2) rfl (by decide +kernel) ?_
    by_cases h19 : (0 : Int32) ≤ y ∧ y ≤ 5
    · refine X_mcall l_X11_X11_right (c_rightT hG (d + 3) h19 updI_eq) rfl rfl rfl rfl (Nat.le_of_ble_eq_true rfl) (Nat.le_of_ble_eq_true rfl) (Nat.le_refl _) (Nat.le_of_ble_eq_true rfl) (Nat.le_of_ble_eq_true rfl) ?_
      refine X_if_ne rfl (fun c22 => ?_) (fun c22 => absurd c22 (by decide))
      obtain ⟨s, hs1, hs2⟩ := m_rng hwf.smE.1 (by have := hwf.smE.2; omega) h2
      have es : n_ x = s := by unfold n_; rw [hs2]; exact nI_clamp (by omega)
      obtain ⟨q, hq1, hq2⟩ := m_rngc (m := 5) rfl (by omega) h19
      have eq : n_ y = q := by unfold n_; rw [hq2]; exact nI_clamp (by omega)
      refine X_ld rfl rfl rfl rfl ?_
      refine X_ld rfl rfl rfl rfl ?_
      refine X_ld rfl rfl rfl rfl ?_
      refine X_mcall l_X11_X11_toldOf (c_toldOf hG d w (updI_I3 hw) hw9 s (by omega) hs2 q (by omega) hq2) rfl rfl rfl rfl (Nat.le_of_ble_eq_true rfl) (Nat.le_of_ble_eq_true rfl) (Nat.le_refl _) (Nat.le_of_ble_eq_true rfl) (Nat.le_of_ble_eq_true rfl) ?_
      exact X_iret rfl rfl (a_ret (by unfold a_statement; rw [if_pos h2, if_pos h19, es, eq])) (Nat.le_of_ble_eq_true rfl) (Nat.le_of_ble_eq_true rfl)
    · refine X_mcall l_X11_X11_right (c_rightF hG (d + 3) h19 updI_eq (by decide)) rfl rfl rfl rfl (Nat.le_of_ble_eq_true rfl) (Nat.le_of_ble_eq_true rfl) (Nat.le_refl _) (Nat.le_of_ble_eq_true rfl) (Nat.le_of_ble_eq_true rfl) ?_
      refine X_heap (N' := mset B (upd I 0 2) T S rd tx gv pl) (by rw [upd_upd]) ?_
      refine X_if_ne rfl (fun c22 => absurd (by decide) c22) (fun c22 => ?_)
      refine X_push (v := .int 0) rfl (by decide +kernel) ?_
      refine X_goto rfl ?_
      exact X_iret rfl rfl (a_ret (by unfold a_statement; rw [if_pos h2, if_neg h19])) (Nat.le_of_ble_eq_true rfl) (Nat.le_of_ble_eq_true rfl)
  · refine X_mcall l_X11_X11_noStatement (c_noStatementF hG (d + 2) w hw hw9 h2) rfl rfl rfl rfl (Nat.le_of_ble_eq_true rfl) (Nat.le_of_ble_eq_true rfl) (Nat.le_refl _) (Nat.le_of_ble_eq_true rfl) (Nat.le_of_ble_eq_true rfl) ?_
    refine X_if_ne rfl (fun c5 => ?_) (fun c5 => absurd c5 (by decide))
    refine X_push (v := .int 0) rfl (by decide +kernel) ?_
    refine X_goto rfl ?_
    exact X_iret rfl rfl (a_ret (by unfold a_statement; rw [if_neg h2])) (Nat.le_of_ble_eq_true rfl) (Nat.le_of_ble_eq_true rfl)
def a_learned (c : Nat → Int32) (x y : Int32) : Int32 × Int32 :=
  if (0 : Int32) ≤ x ∧ x ≤ c 2 - 1 then (if (0 : Int32) ≤ y ∧ y ≤ c 0 - 1 then (0, s_st c (n_ x) (21 + n_ y)) else (1, 0)) else (1, 0)
theorem c_learned {G : XE} (hG : x_Kn G) {B : XH} {I : Nat → Int32} {T : Int64} {S : Nat → Nat → Int32} {rd tx gv pl : Nat → Int32} (d : Nat) (w : Nat) (hw : I 3 = nI w) (hw9 : w < 9) (hwf : s_wf (S w)) {x y : Int32} : x_M G mX11_learned (d + 2) 0 0 [.ref 275, .int x, .int y] (mset B I T S rd tx gv pl) (x_Ret (mset B (upd I 0 (a_learned (S w) x y).1) T S rd tx gv pl) (.int (a_learned (S w) x y).2)) x_noX := by
  refine X_M hG okX11_learned rfl (L := [some (.ref 275), some (.int x), some (.int y)]) rfl (Nat.le_of_ble_eq_true rfl) (fun ad0 nb0 => ?_)
  have hcm5 := hwf.cmE.2
  have hlm40 := hwf.lmE.2
  have hsm6 := hwf.smE.2
  refine X_ld rfl rfl rfl rfl ?_
  refine X_ld rfl rfl rfl rfl ?_
  by_cases h2 : (0 : Int32) ≤ x ∧ x ≤ S w 2 - 1
  · refine X_mcall l_X11_X11_noStatement (c_noStatementT hG d w hw hw9 h2) rfl rfl rfl rfl (Nat.le_of_ble_eq_true rfl) (Nat.le_of_ble_eq_true rfl) (Nat.le_refl _) (Nat.le_of_ble_eq_true rfl) (Nat.le_of_ble_eq_true rfl) ?_
    refine X_if_ne rfl (fun c5 => absurd (by decide) c5) (fun c5 => ?_)
    refine X_ld rfl rfl rfl rfl ?_
    refine X_ld rfl rfl rfl rfl ?_
    by_cases h10 : (0 : Int32) ≤ y ∧ y ≤ S w 0 - 1
    · refine X_mcall l_X11_X11_noColumn (c_noColumnT hG d w (updI_I3 hw) hw9 updI_eq h10) rfl rfl rfl rfl (Nat.le_of_ble_eq_true rfl) (Nat.le_of_ble_eq_true rfl) (Nat.le_refl _) (Nat.le_of_ble_eq_true rfl) (Nat.le_of_ble_eq_true rfl) ?_
      refine X_if_eq rfl (fun c13 => ?_) (fun c13 => absurd (by decide) c13)
      obtain ⟨s, hs1, hs2⟩ := m_rng hwf.smE.1 (by have := hwf.smE.2; omega) h2
      have es : n_ x = s := by unfold n_; rw [hs2]; exact nI_clamp (by omega)
      obtain ⟨j, hj1, hj2⟩ := m_rng hwf.cmE.1 (by have := hwf.cmE.2; omega) h10
      have ej : n_ y = j := by unfold n_; rw [hj2]; exact nI_clamp (by omega)
      refine X_ld rfl rfl rfl rfl ?_
      refine X_ld rfl rfl rfl rfl ?_
      refine X_push (v := .int 21) rfl (by decide +kernel) ?_
      refine X_ld rfl rfl rfl rfl ?_
      refine X_bin rfl rfl ?_
      refine X_mcall l_X11_X11_ofStatement (c_ofStatement hG d w (updI_I3 hw) hw9 s (21 + j) (by omega) hs2 (m_add rfl hj2)) rfl rfl rfl rfl (Nat.le_of_ble_eq_true rfl) (Nat.le_of_ble_eq_true rfl) (Nat.le_refl _) (Nat.le_of_ble_eq_true rfl) (Nat.le_of_ble_eq_true rfl) ?_
      exact X_iret rfl rfl (a_ret (by unfold a_learned; rw [if_pos h2, if_pos h10, es, ej])) (Nat.le_of_ble_eq_true rfl) (Nat.le_of_ble_eq_true rfl)
    · refine X_mcall l_X11_X11_noColumn (c_noColumnF hG d w (updI_I3 hw) hw9 updI_eq h10) rfl rfl rfl rfl (Nat.le_of_ble_eq_true rfl) (Nat.le_of_ble_eq_true rfl) (Nat.le_refl _) (Nat.le_of_ble_eq_true rfl) (Nat.le_of_ble_eq_true rfl) ?_
      refine X_heap (N' := mset B (upd I 0 1) T S rd tx gv pl) (by rw [upd_upd]) ?_
      refine X_if_eq rfl (fun c13 => absurd c13 (by decide)) (fun c13 => ?_)
      refine X_push (v := .int 0) rfl (by decide +kernel) ?_
      refine X_goto rfl ?_
      exact X_iret rfl rfl (a_ret (by unfold a_learned; rw [if_pos h2, if_neg h10])) (Nat.le_of_ble_eq_true rfl) (Nat.le_of_ble_eq_true rfl)
  · refine X_mcall l_X11_X11_noStatement (c_noStatementF hG d w hw hw9 h2) rfl rfl rfl rfl (Nat.le_of_ble_eq_true rfl) (Nat.le_of_ble_eq_true rfl) (Nat.le_refl _) (Nat.le_of_ble_eq_true rfl) (Nat.le_of_ble_eq_true rfl) ?_
    refine X_if_ne rfl (fun c5 => ?_) (fun c5 => absurd c5 (by decide))
    refine X_push (v := .int 0) rfl (by decide +kernel) ?_
    refine X_goto rfl ?_
    exact X_iret rfl rfl (a_ret (by unfold a_learned; rw [if_neg h2])) (Nat.le_of_ble_eq_true rfl) (Nat.le_of_ble_eq_true rfl)
def a_kept (c : Nat → Int32) (x : Int32) : Int32 × Int32 := if (0 : Int32) ≤ x ∧ x ≤ c 2 - 1 then (0, s_st c (n_ x) 14) else (1, 0)
theorem c_kept {G : XE} (hG : x_Kn G) {B : XH} {I : Nat → Int32} {T : Int64} {S : Nat → Nat → Int32} {rd tx gv pl : Nat → Int32} (d : Nat) (w : Nat) (hw : I 3 = nI w) (hw9 : w < 9) (hwf : s_wf (S w)) {x : Int32} : x_M G mX11_kept (d + 2) 0 0 [.ref 275, .int x] (mset B I T S rd tx gv pl) (x_Ret (mset B (upd I 0 (a_kept (S w) x).1) T S rd tx gv pl) (.int (a_kept (S w) x).2)) x_noX := by
  refine X_M hG okX11_kept rfl (L := [some (.ref 275), some (.int x)]) rfl (Nat.le_of_ble_eq_true rfl) (fun ad0 nb0 => ?_)
  have hcm5 := hwf.cmE.2
  have hlm40 := hwf.lmE.2
  have hsm6 := hwf.smE.2
  refine X_ld rfl rfl rfl rfl ?_
  refine X_ld rfl rfl rfl rfl ?_
  by_cases h2 : (0 : Int32) ≤ x ∧ x ≤ S w 2 - 1
  · refine X_mcall l_X11_X11_noStatement (c_noStatementT hG d w hw hw9 h2) rfl rfl rfl rfl (Nat.le_of_ble_eq_true rfl) (Nat.le_of_ble_eq_true rfl) (Nat.le_refl _) (Nat.le_of_ble_eq_true rfl) (Nat.le_of_ble_eq_true rfl) ?_
    refine X_if_eq rfl (fun c5 => ?_) (fun c5 => absurd (by decide) c5)
    obtain ⟨s, hs1, hs2⟩ := m_rng hwf.smE.1 (by have := hwf.smE.2; omega) h2
    have es : n_ x = s := by unfold n_; rw [hs2]; exact nI_clamp (by omega)
    refine X_ld rfl rfl rfl rfl ?_
    refine X_ld rfl rfl rfl rfl ?_
    refine X_push (v := .int 14) rfl (by decide +kernel) ?_
    refine X_mcall l_X11_X11_ofStatement (c_ofStatement hG d w (updI_I3 hw) hw9 s 14 (by omega) hs2 rfl) rfl rfl rfl rfl (Nat.le_of_ble_eq_true rfl) (Nat.le_of_ble_eq_true rfl) (Nat.le_refl _) (Nat.le_of_ble_eq_true rfl) (Nat.le_of_ble_eq_true rfl) ?_
    exact X_iret rfl rfl (a_ret (by unfold a_kept; rw [if_pos h2, es])) (Nat.le_of_ble_eq_true rfl) (Nat.le_of_ble_eq_true rfl)
  · refine X_mcall l_X11_X11_noStatement (c_noStatementF hG d w hw hw9 h2) rfl rfl rfl rfl (Nat.le_of_ble_eq_true rfl) (Nat.le_of_ble_eq_true rfl) (Nat.le_refl _) (Nat.le_of_ble_eq_true rfl) (Nat.le_of_ble_eq_true rfl) ?_
    refine X_if_eq rfl (fun c5 => absurd c5 (by decide)) (fun c5 => ?_)
    refine X_push (v := .int 0) rfl (by decide +kernel) ?_
    refine X_goto rfl ?_
    exact X_iret rfl rfl (a_ret (by unfold a_kept; rw [if_neg h2])) (Nat.le_of_ble_eq_true rfl) (Nat.le_of_ble_eq_true rfl)
theorem c_isPlan {G : XE} (hG : x_Kn G) {B : XH} {I : Nat → Int32} {T : Int64} {S : Nat → Nat → Int32} {rd tx gv pl : Nat → Int32} (d : Nat) (w : Nat) (hw : I 3 = nI w) (hw9 : w < 9) {x : Int32} : x_M G mX11_isPlan (d + 1) 0 0 [.ref 275, .int x] (mset B I T S rd tx gv pl) (x_Ret (mset B I T S rd tx gv pl) (.int (bI ((-1 : Int32) ≤ x ∧ x ≤ S w 0 - 1)))) x_noX := by
  refine X_M hG okX11_isPlan rfl (L := [some (.ref 275), some (.int x)]) rfl (Nat.le_of_ble_eq_true rfl) (fun ad0 nb0 => ?_)
  refine X_ld rfl rfl rfl rfl ?_
  refine X_un rfl rfl ?_
  refine X_ldc2 k_X11_315 rfl ?_
  refine X_ld rfl rfl rfl rfl ?_
  refine X_push (v := .int 0) rfl (by decide +kernel) ?_
  refine X_mcall l_X11_X11_get (c_get hG d w hw hw9 0 (by omega) rfl) rfl rfl rfl rfl (Nat.le_of_ble_eq_true rfl) (Nat.le_of_ble_eq_true rfl) (Nat.le_refl _) (Nat.le_of_ble_eq_true rfl) (Nat.le_of_ble_eq_true rfl) ?_
  refine X_push (v := .int 1) rfl (by decide +kernel) ?_
  refine X_bin rfl rfl ?_
  refine X_un rfl rfl ?_
  refine X_scall l_X11_X11_isIn (c_isIn hG d (x := x) (y := (-1)) (z := (S w 0) - 1) rfl (by decide) rfl) rfl rfl rfl (Nat.le_of_ble_eq_true rfl) (Nat.le_of_ble_eq_true rfl) (Nat.le_refl _) (Nat.le_of_ble_eq_true rfl) (Nat.le_of_ble_eq_true rfl) ?_
  exact X_zret rfl rfl (bI_nar _) ⟨rfl, rfl⟩ (Nat.le_of_ble_eq_true rfl) (Nat.le_of_ble_eq_true rfl)
theorem m_plan {x y : Int32} {m : Nat} (hm : y = nI m) (hb : m < 2147483648) (h : (-1 : Int32) ≤ x ∧ x ≤ y - 1) : x = -1 ∨ ∃ j, j < m ∧ x = nI j := by
  by_cases h0 : (0 : Int32) ≤ x
  · exact Or.inr (m_rng hm hb ⟨h0, h.2⟩)
  · refine Or.inl (Int32.toInt_inj.mp ?_)
    have h1 := Int32.le_iff_toInt_le.mp h.1
    have h2 := Int32.lt_iff_toInt_lt.mp (Int32.not_le.mp h0)
    rw [show (-1 : Int32).toInt = -1 by decide] at h1 ⊢
    rw [show (0 : Int32).toInt = 0 by decide] at h2
    omega
theorem m_plan5 {x y : Int32} {m : Nat} (hm : y = nI m) (hb : m ≤ 5) (h : (-1 : Int32) ≤ x ∧ x ≤ y - 1) : x = -1 ∨ ∃ j, j < 5 ∧ x = nI j := by
  rcases m_plan hm (by omega) h with h | ⟨j, h1, h2⟩
  · exact Or.inl h
  · exact Or.inr ⟨j, by omega, h2⟩
def a_genericCost (c gv : Nat → Int32) (x y : Int32) : Int32 × Int32 :=
  if (0 : Int32) ≤ x ∧ x ≤ c 2 - 1 then (if (-1 : Int32) ≤ y ∧ y ≤ c 0 - 1 then (0, s_cost c gv (n_ x) y false) else (2, 0)) else (1, 0)
theorem c_genericCost {G : XE} (hG : x_Kn G) {B : XH} {I : Nat → Int32} {T : Int64} {S : Nat → Nat → Int32} {rd tx gv pl : Nat → Int32} (d : Nat) (w : Nat) (hw : I 3 = nI w) (hw9 : w < 9) (hwf : s_wf (S w)) {x y : Int32} : x_M G mX11_genericCost (d + 6) 0 0 [.ref 275, .int x, .int y] (mset B I T S rd tx gv pl) (x_Ret (mset B (upd I 0 (a_genericCost (S w) gv x y).1) T S rd tx gv pl) (.int (a_genericCost (S w) gv x y).2)) x_noX := by
  refine X_M hG okX11_genericCost rfl (L := [some (.ref 275), some (.int x), some (.int y)]) rfl (Nat.le_of_ble_eq_true rfl) (fun ad0 nb0 => ?_)
  have hcm5 := hwf.cmE.2
  have hlm40 := hwf.lmE.2
  have hsm6 := hwf.smE.2
  refine X_ld rfl rfl rfl rfl ?_
  refine X_ld rfl rfl rfl rfl ?_
  by_cases h2 : (0 : Int32) ≤ x ∧ x ≤ S w 2 - 1
  · refine X_mcall l_X11_X11_noStatement (c_noStatementT hG (d + 4) w hw hw9 h2) rfl rfl rfl rfl (Nat.le_of_ble_eq_true rfl) (Nat.le_of_ble_eq_true rfl) (Nat.le_refl _) (Nat.le_of_ble_eq_true rfl) (Nat.le_of_ble_eq_true rfl) ?_
    refine X_if_ne rfl (fun c5 => absurd (by decide) c5) (fun c5 => ?_)
    refine X_ld rfl rfl rfl rfl ?_
    refine X_ld rfl rfl rfl rfl ?_
    refine X_ld rfl rfl rfl rfl ?_
    refine X_mcall l_X11_X11_isPlan (c_isPlan hG (d + 4) w (updI_I3 hw) hw9) rfl rfl rfl rfl (Nat.le_of_ble_eq_true rfl) (Nat.le_of_ble_eq_true rfl) (Nat.le_refl _) (Nat.le_of_ble_eq_true rfl) (Nat.le_of_ble_eq_true rfl) ?_
    refine X_push (v := .int 2) rfl (by decide +kernel) ?_
    by_cases h15 : (-1 : Int32) ≤ y ∧ y ≤ S w 0 - 1
    · refine X_mcall l_X11_X11_right (c_rightT hG (d + 5) h15 updI_eq) rfl rfl rfl rfl (Nat.le_of_ble_eq_true rfl) (Nat.le_of_ble_eq_true rfl) (Nat.le_refl _) (Nat.le_of_ble_eq_true rfl) (Nat.le_of_ble_eq_true rfl) ?_
      refine X_if_ne rfl (fun c18 => ?_) (fun c18 => absurd c18 (by decide))
      obtain ⟨s, hs1, hs2⟩ := m_rng hwf.smE.1 (by have := hwf.smE.2; omega) h2
      have es : n_ x = s := by unfold n_; rw [hs2]; exact nI_clamp (by omega)
      refine X_ld rfl rfl rfl rfl ?_
      refine X_ld rfl rfl rfl rfl ?_
      refine X_ld rfl rfl rfl rfl ?_
      refine X_push (v := .int 0) rfl (by decide +kernel) ?_
      refine X_mcall l_X11_X11_costOf (c_costOf hG d w (updI_I3 hw) hw9 s (by omega) (hwf.kok hs1) false hs2 (m_plan5 hwf.cmE.1 hwf.cmE.2 h15)) rfl rfl rfl rfl (Nat.le_of_ble_eq_true rfl) (Nat.le_of_ble_eq_true rfl) (Nat.le_refl _) (Nat.le_of_ble_eq_true rfl) (Nat.le_of_ble_eq_true rfl) ?_
      exact X_iret rfl rfl (a_ret (by unfold a_genericCost; rw [if_pos h2, if_pos h15, es])) (Nat.le_of_ble_eq_true rfl) (Nat.le_of_ble_eq_true rfl)
    · refine X_mcall l_X11_X11_right (c_rightF hG (d + 5) h15 updI_eq (by decide)) rfl rfl rfl rfl (Nat.le_of_ble_eq_true rfl) (Nat.le_of_ble_eq_true rfl) (Nat.le_refl _) (Nat.le_of_ble_eq_true rfl) (Nat.le_of_ble_eq_true rfl) ?_
      refine X_heap (N' := mset B (upd I 0 2) T S rd tx gv pl) (by rw [upd_upd]) ?_
      refine X_if_ne rfl (fun c18 => absurd (by decide) c18) (fun c18 => ?_)
      refine X_push (v := .int 0) rfl (by decide +kernel) ?_
      refine X_goto rfl ?_
      exact X_iret rfl rfl (a_ret (by unfold a_genericCost; rw [if_pos h2, if_neg h15])) (Nat.le_of_ble_eq_true rfl) (Nat.le_of_ble_eq_true rfl)
  · refine X_mcall l_X11_X11_noStatement (c_noStatementF hG (d + 4) w hw hw9 h2) rfl rfl rfl rfl (Nat.le_of_ble_eq_true rfl) (Nat.le_of_ble_eq_true rfl) (Nat.le_refl _) (Nat.le_of_ble_eq_true rfl) (Nat.le_of_ble_eq_true rfl) ?_
    refine X_if_ne rfl (fun c5 => ?_) (fun c5 => absurd c5 (by decide))
    refine X_push (v := .int 0) rfl (by decide +kernel) ?_
    refine X_goto rfl ?_
    exact X_iret rfl rfl (a_ret (by unfold a_genericCost; rw [if_neg h2])) (Nat.le_of_ble_eq_true rfl) (Nat.le_of_ble_eq_true rfl)
abbrev s_isv (c : Nat → Int32) (s h : Nat) (v : Int32) : Prop := (s_st c s (17 + h) = -1 ∧ v = 0) ∨ (¬ s_st c s (17 + h) = -1 ∧ (0 : Int32) ≤ v ∧ v ≤ s_most (s_st c s (17 + h)))
abbrev s_vok (c : Nat → Int32) (s : Nat) (v0 v1 v2 v3 : Int32) : Prop := s_isv c s 0 v0 ∧ s_isv c s 1 v1 ∧ s_isv c s 2 v2 ∧ s_isv c s 3 v3
def s_giv (gv : Nat → Int32) (v0 v1 v2 v3 : Int32) : Nat → Int32 := upd (upd (upd (upd gv 0 v0) 1 v1) 2 v2) 3 v3
theorem m_bIeq {p q : Prop} [Decidable p] [Decidable q] (h : p ↔ q) : bI p = bI q := by
  by_cases hp : p
  · rw [bI_t hp, bI_t (h.mp hp)]
  · rw [bI_f hp, bI_f (fun z => hp (h.mpr z))]
theorem c_isValue {G : XE} (hG : x_Kn G) {B : XH} {I : Nat → Int32} {T : Int64} {S : Nat → Nat → Int32} {rd tx gv pl : Nat → Int32} (d : Nat) (w : Nat) (hw : I 3 = nI w) (hw9 : w < 9) (s : Nat) (hs : s < 6) {x : Int32} (hx : x = nI s) (h : Nat) (hh : h < 4) {y v : Int32} (hy : y = nI h) : x_M G mX11_isValue (d + 2) 0 0 [.ref 275, .int x, .int y, .int v] (mset B I T S rd tx gv pl) (x_Ret (mset B I T S rd tx gv pl) (.int (bI (s_isv (S w) s h v)))) x_noX := by
  refine X_M hG okX11_isValue rfl (L := [some (.ref 275), some (.int x), some (.int y), some (.int v), none]) rfl (Nat.le_of_ble_eq_true rfl) (fun ad0 nb0 => ?_)
  refine X_ld rfl rfl rfl rfl ?_
  refine X_ld rfl rfl rfl rfl ?_
  refine X_push (v := .int 17) rfl (by decide +kernel) ?_
  refine X_ld rfl rfl rfl rfl ?_
  refine X_bin rfl rfl ?_
  refine X_mcall l_X11_X11_ofStatement (c_ofStatement hG d w hw hw9 s (17 + h) (by omega) hx (m_add rfl hy)) rfl rfl rfl rfl (Nat.le_of_ble_eq_true rfl) (Nat.le_of_ble_eq_true rfl) (Nat.le_refl _) (Nat.le_of_ble_eq_true rfl) (Nat.le_of_ble_eq_true rfl) ?_
  refine X_st rfl rfl rfl ?_
  refine X_ld rfl rfl rfl rfl ?_
  refine X_push (v := .int (-1)) rfl (by decide +kernel) ?_
  refine X_icmp_ne rfl (fun c14 => ?_) (fun c14 => ?_)
  · refine X_ld rfl rfl rfl rfl ?_
    refine X_un rfl rfl ?_
    refine X_push (v := .long 0) rfl (by decide +kernel) ?_
    refine X_ld rfl rfl rfl rfl ?_
    refine X_scall l_X11_X11_mostOf (c_mostOf hG (d + 1) ) rfl rfl rfl (Nat.le_of_ble_eq_true rfl) (Nat.le_of_ble_eq_true rfl) (Nat.le_refl _) (Nat.le_of_ble_eq_true rfl) (Nat.le_of_ble_eq_true rfl) ?_
    refine X_un rfl rfl ?_
    refine X_scall l_X11_X11_isIn (c_isIn hG (d + 1) (x := v) (y := 0) (z := s_most (S w (275 + 30 * s + (17 + h)))) rfl (by decide) rfl) rfl rfl rfl (Nat.le_of_ble_eq_true rfl) (Nat.le_of_ble_eq_true rfl) (Nat.le_refl _) (Nat.le_of_ble_eq_true rfl) (Nat.le_of_ble_eq_true rfl) ?_
    exact X_zret rfl rfl (bI_nar _) ⟨rfl, congrArg (fun q => some (Value.int q)) (m_bIeq ⟨fun q => Or.inr ⟨c14, q⟩, fun q => q.elim (fun q => absurd q.1 c14) (fun q => q.2)⟩)⟩ (Nat.le_of_ble_eq_true rfl) (Nat.le_of_ble_eq_true rfl)
  · refine X_ld rfl rfl rfl rfl ?_
    refine X_if_ne rfl (fun c18 => ?_) (fun c18 => ?_)
    · refine X_push (v := .int 0) rfl (by decide +kernel) ?_
      refine X_goto rfl ?_
      exact X_zret rfl rfl rfl ⟨rfl, by rw [bI_f (fun q => q.elim (fun q => c18 q.2) (fun q => q.1 c14))]⟩ (Nat.le_of_ble_eq_true rfl) (Nat.le_of_ble_eq_true rfl)
    · refine X_push (v := .int 1) rfl (by decide +kernel) ?_
      refine X_goto rfl ?_
      exact X_zret rfl rfl rfl ⟨rfl, by rw [bI_t (Or.inl ⟨c14, c18⟩)]⟩ (Nat.le_of_ble_eq_true rfl) (Nat.le_of_ble_eq_true rfl)
end
